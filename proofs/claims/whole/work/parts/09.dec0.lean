theorem dX0_init_0 : decode cX0_init 0 = .ok (.aload_n 0, 1) := by decide +kernel
theorem dX0_init_1 : decode cX0_init 1 = .ok (.invokespecial 3, 3) := by decide +kernel
theorem dX0_init_4 : decode cX0_init 4 = .ok (.aload_n 0, 1) := by decide +kernel
theorem dX0_init_5 : decode cX0_init 5 = .ok (.bipush 32, 2) := by decide +kernel
theorem dX0_init_7 : decode cX0_init 7 = .ok (.newarray .int, 2) := by decide +kernel
theorem dX0_init_9 : decode cX0_init 9 = .ok (.putfield 9, 3) := by decide +kernel
theorem dX0_init_12 : decode cX0_init 12 = .ok (.aload_n 0, 1) := by decide +kernel
theorem dX0_init_13 : decode cX0_init 13 = .ok (.iconst 0, 1) := by decide +kernel
theorem dX0_init_14 : decode cX0_init 14 = .ok (.putfield 15, 3) := by decide +kernel
theorem dX0_init_17 : decode cX0_init 17 = .ok (.return_, 1) := by decide +kernel
theorem dX0_at_0 : decode cX0_at 0 = .ok (.iload_n 1, 1) := by decide +kernel
theorem dX0_at_1 : decode cX0_at 1 = .ok (.ifCond .lt 29, 3) := by decide +kernel
theorem dX0_at_4 : decode cX0_at 4 = .ok (.iload_n 1, 1) := by decide +kernel
theorem dX0_at_5 : decode cX0_at 5 = .ok (.aload_n 0, 1) := by decide +kernel
theorem dX0_at_6 : decode cX0_at 6 = .ok (.getfield 15, 3) := by decide +kernel
theorem dX0_at_9 : decode cX0_at 9 = .ok (.if_icmp .ge 21, 3) := by decide +kernel
theorem dX0_at_12 : decode cX0_at 12 = .ok (.iload_n 1, 1) := by decide +kernel
theorem dX0_at_13 : decode cX0_at 13 = .ok (.aload_n 0, 1) := by decide +kernel
theorem dX0_at_14 : decode cX0_at 14 = .ok (.getfield 9, 3) := by decide +kernel
theorem dX0_at_17 : decode cX0_at 17 = .ok (.arraylength, 1) := by decide +kernel
theorem dX0_at_18 : decode cX0_at 18 = .ok (.if_icmp .ge 12, 3) := by decide +kernel
theorem dX0_at_21 : decode cX0_at 21 = .ok (.aload_n 0, 1) := by decide +kernel
theorem dX0_at_22 : decode cX0_at 22 = .ok (.getfield 9, 3) := by decide +kernel
theorem dX0_at_25 : decode cX0_at 25 = .ok (.iload_n 1, 1) := by decide +kernel
theorem dX0_at_26 : decode cX0_at 26 = .ok (.iaload, 1) := by decide +kernel
theorem dX0_at_27 : decode cX0_at 27 = .ok (.goto 4, 3) := by decide +kernel
theorem dX0_at_30 : decode cX0_at 30 = .ok (.iconst (-1), 1) := by decide +kernel
theorem dX0_at_31 : decode cX0_at 31 = .ok (.ireturn, 1) := by decide +kernel
theorem dX0_write_0 : decode cX0_write 0 = .ok (.aload_n 0, 1) := by decide +kernel
theorem dX0_write_1 : decode cX0_write 1 = .ok (.iconst 0, 1) := by decide +kernel
theorem dX0_write_2 : decode cX0_write 2 = .ok (.putfield 15, 3) := by decide +kernel
theorem dX0_write_5 : decode cX0_write 5 = .ok (.aload_n 0, 1) := by decide +kernel
theorem dX0_write_6 : decode cX0_write 6 = .ok (.aload_n 1, 1) := by decide +kernel
theorem dX0_write_7 : decode cX0_write 7 = .ok (.iconst 0, 1) := by decide +kernel
theorem dX0_write_8 : decode cX0_write 8 = .ok (.invokevirtual 19, 3) := by decide +kernel
theorem dX0_write_11 : decode cX0_write 11 = .ok (.return_, 1) := by decide +kernel
theorem dX0_appendValue_0 : decode cX0_appendValue 0 = .ok (.iload_n 2, 1) := by decide +kernel
theorem dX0_appendValue_1 : decode cX0_appendValue 1 = .ok (.bipush 8, 2) := by decide +kernel
theorem dX0_appendValue_3 : decode cX0_appendValue 3 = .ok (.if_icmp .le 4, 3) := by decide +kernel
theorem dX0_appendValue_6 : decode cX0_appendValue 6 = .ok (.return_, 1) := by decide +kernel
theorem dX0_appendValue_7 : decode cX0_appendValue 7 = .ok (.aload_n 0, 1) := by decide +kernel
theorem dX0_appendValue_8 : decode cX0_appendValue 8 = .ok (.bipush 100, 2) := by decide +kernel
theorem dX0_appendValue_10 : decode cX0_appendValue 10 = .ok (.aload_n 1, 1) := by decide +kernel
theorem dX0_appendValue_11 : decode cX0_appendValue 11 = .ok (.getfield 23, 3) := by decide +kernel
theorem dX0_appendValue_14 : decode cX0_appendValue 14 = .ok (.iadd, 1) := by decide +kernel
theorem dX0_appendValue_15 : decode cX0_appendValue 15 = .ok (.invokevirtual 28, 3) := by decide +kernel
theorem dX0_appendValue_18 : decode cX0_appendValue 18 = .ok (.iconst 0, 1) := by decide +kernel
theorem dX0_appendValue_19 : decode cX0_appendValue 19 = .ok (.istore_n 3, 1) := by decide +kernel
theorem dX0_appendValue_20 : decode cX0_appendValue 20 = .ok (.iload_n 3, 1) := by decide +kernel
theorem dX0_appendValue_21 : decode cX0_appendValue 21 = .ok (.aload_n 1, 1) := by decide +kernel
theorem dX0_appendValue_22 : decode cX0_appendValue 22 = .ok (.getfield 32, 3) := by decide +kernel
theorem dX0_appendValue_25 : decode cX0_appendValue 25 = .ok (.if_icmp .ge 48, 3) := by decide +kernel
theorem dX0_appendValue_28 : decode cX0_appendValue 28 = .ok (.iload_n 3, 1) := by decide +kernel
theorem dX0_appendValue_29 : decode cX0_appendValue 29 = .ok (.iconst 3, 1) := by decide +kernel
theorem dX0_appendValue_30 : decode cX0_appendValue 30 = .ok (.if_icmp .ge 43, 3) := by decide +kernel
theorem dX0_appendValue_33 : decode cX0_appendValue 33 = .ok (.aload_n 1, 1) := by decide +kernel
theorem dX0_appendValue_34 : decode cX0_appendValue 34 = .ok (.iload_n 3, 1) := by decide +kernel
theorem dX0_appendValue_35 : decode cX0_appendValue 35 = .ok (.invokevirtual 35, 3) := by decide +kernel
theorem dX0_appendValue_38 : decode cX0_appendValue 38 = .ok (.astore 4, 2) := by decide +kernel
theorem dX0_appendValue_40 : decode cX0_appendValue 40 = .ok (.aload 4, 2) := by decide +kernel
theorem dX0_appendValue_42 : decode cX0_appendValue 42 = .ok (.ifnull 15, 3) := by decide +kernel
theorem dX0_appendValue_45 : decode cX0_appendValue 45 = .ok (.aload_n 0, 1) := by decide +kernel
theorem dX0_appendValue_46 : decode cX0_appendValue 46 = .ok (.aload 4, 2) := by decide +kernel
theorem dX0_appendValue_48 : decode cX0_appendValue 48 = .ok (.iload_n 2, 1) := by decide +kernel
theorem dX0_appendValue_49 : decode cX0_appendValue 49 = .ok (.iconst 1, 1) := by decide +kernel
theorem dX0_appendValue_50 : decode cX0_appendValue 50 = .ok (.iadd, 1) := by decide +kernel
theorem dX0_appendValue_51 : decode cX0_appendValue 51 = .ok (.invokevirtual 19, 3) := by decide +kernel
theorem dX0_appendValue_54 : decode cX0_appendValue 54 = .ok (.goto 13, 3) := by decide +kernel
theorem dX0_appendValue_57 : decode cX0_appendValue 57 = .ok (.aload_n 0, 1) := by decide +kernel
theorem dX0_appendValue_58 : decode cX0_appendValue 58 = .ok (.aload_n 1, 1) := by decide +kernel
theorem dX0_appendValue_59 : decode cX0_appendValue 59 = .ok (.getfield 39, 3) := by decide +kernel
theorem dX0_appendValue_62 : decode cX0_appendValue 62 = .ok (.iload_n 3, 1) := by decide +kernel
theorem dX0_appendValue_63 : decode cX0_appendValue 63 = .ok (.iaload, 1) := by decide +kernel
theorem dX0_appendValue_64 : decode cX0_appendValue 64 = .ok (.invokevirtual 28, 3) := by decide +kernel
theorem dX0_appendValue_67 : decode cX0_appendValue 67 = .ok (.iinc 3 1, 3) := by decide +kernel
theorem dX0_appendValue_70 : decode cX0_appendValue 70 = .ok (.goto (-50), 3) := by decide +kernel
theorem dX0_appendValue_73 : decode cX0_appendValue 73 = .ok (.return_, 1) := by decide +kernel
theorem dX0_append_0 : decode cX0_append 0 = .ok (.aload_n 0, 1) := by decide +kernel
theorem dX0_append_1 : decode cX0_append 1 = .ok (.getfield 15, 3) := by decide +kernel
theorem dX0_append_4 : decode cX0_append 4 = .ok (.ifCond .lt 35, 3) := by decide +kernel
theorem dX0_append_7 : decode cX0_append 7 = .ok (.aload_n 0, 1) := by decide +kernel
theorem dX0_append_8 : decode cX0_append 8 = .ok (.getfield 15, 3) := by decide +kernel
theorem dX0_append_11 : decode cX0_append 11 = .ok (.aload_n 0, 1) := by decide +kernel
theorem dX0_append_12 : decode cX0_append 12 = .ok (.getfield 9, 3) := by decide +kernel
theorem dX0_append_15 : decode cX0_append 15 = .ok (.arraylength, 1) := by decide +kernel
theorem dX0_append_16 : decode cX0_append 16 = .ok (.if_icmp .ge 23, 3) := by decide +kernel
theorem dX0_append_19 : decode cX0_append 19 = .ok (.aload_n 0, 1) := by decide +kernel
theorem dX0_append_20 : decode cX0_append 20 = .ok (.getfield 9, 3) := by decide +kernel
theorem dX0_append_23 : decode cX0_append 23 = .ok (.aload_n 0, 1) := by decide +kernel
theorem dX0_append_24 : decode cX0_append 24 = .ok (.getfield 15, 3) := by decide +kernel
theorem dX0_append_27 : decode cX0_append 27 = .ok (.iload_n 1, 1) := by decide +kernel
theorem dX0_append_28 : decode cX0_append 28 = .ok (.iastore, 1) := by decide +kernel
theorem dX0_append_29 : decode cX0_append 29 = .ok (.aload_n 0, 1) := by decide +kernel
theorem dX0_append_30 : decode cX0_append 30 = .ok (.dup, 1) := by decide +kernel
theorem dX0_append_31 : decode cX0_append 31 = .ok (.getfield 15, 3) := by decide +kernel
theorem dX0_append_34 : decode cX0_append 34 = .ok (.iconst 1, 1) := by decide +kernel
theorem dX0_append_35 : decode cX0_append 35 = .ok (.iadd, 1) := by decide +kernel
theorem dX0_append_36 : decode cX0_append 36 = .ok (.putfield 15, 3) := by decide +kernel
theorem dX0_append_39 : decode cX0_append 39 = .ok (.return_, 1) := by decide +kernel
theorem dX1_init_0 : decode cX1_init 0 = .ok (.aload_n 0, 1) := by decide +kernel
theorem dX1_init_1 : decode cX1_init 1 = .ok (.invokespecial 3, 3) := by decide +kernel
theorem dX1_init_4 : decode cX1_init 4 = .ok (.aload_n 0, 1) := by decide +kernel
theorem dX1_init_5 : decode cX1_init 5 = .ok (.iconst 0, 1) := by decide +kernel
theorem dX1_init_6 : decode cX1_init 6 = .ok (.putfield 9, 3) := by decide +kernel
theorem dX1_init_9 : decode cX1_init 9 = .ok (.aload_n 0, 1) := by decide +kernel
theorem dX1_init_10 : decode cX1_init 10 = .ok (.iconst 2, 1) := by decide +kernel
theorem dX1_init_11 : decode cX1_init 11 = .ok (.putfield 15, 3) := by decide +kernel
theorem dX1_init_14 : decode cX1_init 14 = .ok (.aload_n 0, 1) := by decide +kernel
theorem dX1_init_15 : decode cX1_init 15 = .ok (.iconst 0, 1) := by decide +kernel
theorem dX1_init_16 : decode cX1_init 16 = .ok (.putfield 18, 3) := by decide +kernel
theorem dX1_init_19 : decode cX1_init 19 = .ok (.aload_n 0, 1) := by decide +kernel
theorem dX1_init_20 : decode cX1_init 20 = .ok (.iconst 0, 1) := by decide +kernel
theorem dX1_init_21 : decode cX1_init 21 = .ok (.putfield 21, 3) := by decide +kernel
theorem dX1_init_24 : decode cX1_init 24 = .ok (.aload_n 0, 1) := by decide +kernel
theorem dX1_init_25 : decode cX1_init 25 = .ok (.bipush 6, 2) := by decide +kernel
theorem dX1_init_27 : decode cX1_init 27 = .ok (.newarray .int, 2) := by decide +kernel
theorem dX1_init_29 : decode cX1_init 29 = .ok (.putfield 24, 3) := by decide +kernel
theorem dX1_init_32 : decode cX1_init 32 = .ok (.aload_n 0, 1) := by decide +kernel
theorem dX1_init_33 : decode cX1_init 33 = .ok (.bipush 18, 2) := by decide +kernel
theorem dX1_init_35 : decode cX1_init 35 = .ok (.newarray .int, 2) := by decide +kernel
theorem dX1_init_37 : decode cX1_init 37 = .ok (.putfield 28, 3) := by decide +kernel
theorem dX1_init_40 : decode cX1_init 40 = .ok (.aload_n 0, 1) := by decide +kernel
theorem dX1_init_41 : decode cX1_init 41 = .ok (.bipush 18, 2) := by decide +kernel
theorem dX1_init_43 : decode cX1_init 43 = .ok (.newarray .int, 2) := by decide +kernel
theorem dX1_init_45 : decode cX1_init 45 = .ok (.putfield 31, 3) := by decide +kernel
theorem dX1_init_48 : decode cX1_init 48 = .ok (.aload_n 0, 1) := by decide +kernel
theorem dX1_init_49 : decode cX1_init 49 = .ok (.bipush 6, 2) := by decide +kernel
theorem dX1_init_51 : decode cX1_init 51 = .ok (.newarray .int, 2) := by decide +kernel
theorem dX1_init_53 : decode cX1_init 53 = .ok (.putfield 34, 3) := by decide +kernel
theorem dX1_init_56 : decode cX1_init 56 = .ok (.return_, 1) := by decide +kernel
theorem dX1_hasType_0 : decode cX1_hasType 0 = .ok (.iload_n 1, 1) := by decide +kernel
theorem dX1_hasType_1 : decode cX1_hasType 1 = .ok (.ifCond .lt 15, 3) := by decide +kernel
theorem dX1_hasType_4 : decode cX1_hasType 4 = .ok (.iload_n 1, 1) := by decide +kernel
theorem dX1_hasType_5 : decode cX1_hasType 5 = .ok (.aload_n 0, 1) := by decide +kernel
theorem dX1_hasType_6 : decode cX1_hasType 6 = .ok (.getfield 18, 3) := by decide +kernel
theorem dX1_hasType_9 : decode cX1_hasType 9 = .ok (.if_icmp .ge 7, 3) := by decide +kernel
theorem dX1_hasType_12 : decode cX1_hasType 12 = .ok (.iconst 1, 1) := by decide +kernel
theorem dX1_hasType_13 : decode cX1_hasType 13 = .ok (.goto 4, 3) := by decide +kernel
theorem dX1_hasType_16 : decode cX1_hasType 16 = .ok (.iconst 0, 1) := by decide +kernel
theorem dX1_hasType_17 : decode cX1_hasType 17 = .ok (.ireturn, 1) := by decide +kernel
theorem dX1_hasConstructor_0 : decode cX1_hasConstructor 0 = .ok (.iload_n 1, 1) := by decide +kernel
theorem dX1_hasConstructor_1 : decode cX1_hasConstructor 1 = .ok (.ifCond .lt 21, 3) := by decide +kernel
theorem dX1_hasConstructor_4 : decode cX1_hasConstructor 4 = .ok (.iload_n 1, 1) := by decide +kernel
theorem dX1_hasConstructor_5 : decode cX1_hasConstructor 5 = .ok (.aload_n 0, 1) := by decide +kernel
theorem dX1_hasConstructor_6 : decode cX1_hasConstructor 6 = .ok (.getfield 21, 3) := by decide +kernel
theorem dX1_hasConstructor_9 : decode cX1_hasConstructor 9 = .ok (.if_icmp .ge 13, 3) := by decide +kernel
theorem dX1_hasConstructor_12 : decode cX1_hasConstructor 12 = .ok (.iload_n 1, 1) := by decide +kernel
theorem dX1_hasConstructor_13 : decode cX1_hasConstructor 13 = .ok (.bipush 6, 2) := by decide +kernel
theorem dX1_hasConstructor_15 : decode cX1_hasConstructor 15 = .ok (.if_icmp .ge 7, 3) := by decide +kernel
theorem dX1_hasConstructor_18 : decode cX1_hasConstructor 18 = .ok (.iconst 1, 1) := by decide +kernel
theorem dX1_hasConstructor_19 : decode cX1_hasConstructor 19 = .ok (.goto 4, 3) := by decide +kernel
theorem dX1_hasConstructor_22 : decode cX1_hasConstructor 22 = .ok (.iconst 0, 1) := by decide +kernel
theorem dX1_hasConstructor_23 : decode cX1_hasConstructor 23 = .ok (.ireturn, 1) := by decide +kernel
theorem dX1_allowsParameters_0 : decode cX1_allowsParameters 0 = .ok (.aload_n 0, 1) := by decide +kernel
theorem dX1_allowsParameters_1 : decode cX1_allowsParameters 1 = .ok (.iload_n 1, 1) := by decide +kernel
theorem dX1_allowsParameters_2 : decode cX1_allowsParameters 2 = .ok (.invokevirtual 37, 3) := by decide +kernel
theorem dX1_allowsParameters_5 : decode cX1_allowsParameters 5 = .ok (.ifCond .eq 19, 3) := by decide +kernel
theorem dX1_allowsParameters_8 : decode cX1_allowsParameters 8 = .ok (.aload_n 0, 1) := by decide +kernel
theorem dX1_allowsParameters_9 : decode cX1_allowsParameters 9 = .ok (.iload_n 2, 1) := by decide +kernel
theorem dX1_allowsParameters_10 : decode cX1_allowsParameters 10 = .ok (.invokevirtual 37, 3) := by decide +kernel
theorem dX1_allowsParameters_13 : decode cX1_allowsParameters 13 = .ok (.ifCond .eq 11, 3) := by decide +kernel
theorem dX1_allowsParameters_16 : decode cX1_allowsParameters 16 = .ok (.aload_n 0, 1) := by decide +kernel
theorem dX1_allowsParameters_17 : decode cX1_allowsParameters 17 = .ok (.iload_n 3, 1) := by decide +kernel
theorem dX1_allowsParameters_18 : decode cX1_allowsParameters 18 = .ok (.invokevirtual 37, 3) := by decide +kernel
theorem dX1_allowsParameters_21 : decode cX1_allowsParameters 21 = .ok (.ifCond .ne 5, 3) := by decide +kernel
theorem dX1_allowsParameters_24 : decode cX1_allowsParameters 24 = .ok (.iconst 0, 1) := by decide +kernel
theorem dX1_allowsParameters_25 : decode cX1_allowsParameters 25 = .ok (.ireturn, 1) := by decide +kernel
theorem dX1_allowsParameters_26 : decode cX1_allowsParameters 26 = .ok (.iload_n 1, 1) := by decide +kernel
theorem dX1_allowsParameters_27 : decode cX1_allowsParameters 27 = .ok (.iconst (-1), 1) := by decide +kernel
theorem dX1_allowsParameters_28 : decode cX1_allowsParameters 28 = .ok (.if_icmp .ne 8, 3) := by decide +kernel
theorem dX1_allowsParameters_31 : decode cX1_allowsParameters 31 = .ok (.iload_n 2, 1) := by decide +kernel
theorem dX1_allowsParameters_32 : decode cX1_allowsParameters 32 = .ok (.iconst (-1), 1) := by decide +kernel
theorem dX1_allowsParameters_33 : decode cX1_allowsParameters 33 = .ok (.if_icmp .ne 13, 3) := by decide +kernel
theorem dX1_allowsParameters_36 : decode cX1_allowsParameters 36 = .ok (.iload_n 2, 1) := by decide +kernel
theorem dX1_allowsParameters_37 : decode cX1_allowsParameters 37 = .ok (.iconst (-1), 1) := by decide +kernel
theorem dX1_allowsParameters_38 : decode cX1_allowsParameters 38 = .ok (.if_icmp .ne 12, 3) := by decide +kernel
theorem dX1_allowsParameters_41 : decode cX1_allowsParameters 41 = .ok (.iload_n 3, 1) := by decide +kernel
theorem dX1_allowsParameters_42 : decode cX1_allowsParameters 42 = .ok (.iconst (-1), 1) := by decide +kernel
theorem dX1_allowsParameters_43 : decode cX1_allowsParameters 43 = .ok (.if_icmp .eq 7, 3) := by decide +kernel
theorem dX1_allowsParameters_46 : decode cX1_allowsParameters 46 = .ok (.iconst 1, 1) := by decide +kernel
theorem dX1_allowsParameters_47 : decode cX1_allowsParameters 47 = .ok (.goto 4, 3) := by decide +kernel
theorem dX1_allowsParameters_50 : decode cX1_allowsParameters 50 = .ok (.iconst 0, 1) := by decide +kernel
theorem dX1_allowsParameters_51 : decode cX1_allowsParameters 51 = .ok (.istore 4, 2) := by decide +kernel
theorem dX1_allowsParameters_53 : decode cX1_allowsParameters 53 = .ok (.iload 4, 2) := by decide +kernel
theorem dX1_allowsParameters_55 : decode cX1_allowsParameters 55 = .ok (.ifCond .ne 31, 3) := by decide +kernel
theorem dX1_allowsParameters_58 : decode cX1_allowsParameters 58 = .ok (.aload_n 0, 1) := by decide +kernel
theorem dX1_allowsParameters_59 : decode cX1_allowsParameters 59 = .ok (.iload_n 1, 1) := by decide +kernel
theorem dX1_allowsParameters_60 : decode cX1_allowsParameters 60 = .ok (.invokevirtual 41, 3) := by decide +kernel
theorem dX1_allowsParameters_63 : decode cX1_allowsParameters 63 = .ok (.ifCond .eq 19, 3) := by decide +kernel
theorem dX1_allowsParameters_66 : decode cX1_allowsParameters 66 = .ok (.aload_n 0, 1) := by decide +kernel
theorem dX1_allowsParameters_67 : decode cX1_allowsParameters 67 = .ok (.iload_n 2, 1) := by decide +kernel
theorem dX1_allowsParameters_68 : decode cX1_allowsParameters 68 = .ok (.invokevirtual 41, 3) := by decide +kernel
theorem dX1_allowsParameters_71 : decode cX1_allowsParameters 71 = .ok (.ifCond .eq 11, 3) := by decide +kernel
theorem dX1_allowsParameters_74 : decode cX1_allowsParameters 74 = .ok (.aload_n 0, 1) := by decide +kernel
theorem dX1_allowsParameters_75 : decode cX1_allowsParameters 75 = .ok (.iload_n 3, 1) := by decide +kernel
theorem dX1_allowsParameters_76 : decode cX1_allowsParameters 76 = .ok (.invokevirtual 41, 3) := by decide +kernel
theorem dX1_allowsParameters_79 : decode cX1_allowsParameters 79 = .ok (.ifCond .ne 7, 3) := by decide +kernel
theorem dX1_allowsParameters_82 : decode cX1_allowsParameters 82 = .ok (.iconst 1, 1) := by decide +kernel
theorem dX1_allowsParameters_83 : decode cX1_allowsParameters 83 = .ok (.goto 4, 3) := by decide +kernel
theorem dX1_allowsParameters_86 : decode cX1_allowsParameters 86 = .ok (.iconst 0, 1) := by decide +kernel
theorem dX1_allowsParameters_87 : decode cX1_allowsParameters 87 = .ok (.ireturn, 1) := by decide +kernel
theorem dX1_isParameter_0 : decode cX1_isParameter 0 = .ok (.iload_n 1, 1) := by decide +kernel
theorem dX1_isParameter_1 : decode cX1_isParameter 1 = .ok (.iconst (-1), 1) := by decide +kernel
theorem dX1_isParameter_2 : decode cX1_isParameter 2 = .ok (.if_icmp .eq 17, 3) := by decide +kernel
theorem dX1_isParameter_5 : decode cX1_isParameter 5 = .ok (.iload_n 1, 1) := by decide +kernel
theorem dX1_isParameter_6 : decode cX1_isParameter 6 = .ok (.bipush 9, 2) := by decide +kernel
theorem dX1_isParameter_8 : decode cX1_isParameter 8 = .ok (.if_icmp .eq 11, 3) := by decide +kernel
theorem dX1_isParameter_11 : decode cX1_isParameter 11 = .ok (.aload_n 0, 1) := by decide +kernel
theorem dX1_isParameter_12 : decode cX1_isParameter 12 = .ok (.iload_n 1, 1) := by decide +kernel
theorem dX1_isParameter_13 : decode cX1_isParameter 13 = .ok (.invokevirtual 41, 3) := by decide +kernel
theorem dX1_isParameter_16 : decode cX1_isParameter 16 = .ok (.ifCond .eq 7, 3) := by decide +kernel
theorem dX1_isParameter_19 : decode cX1_isParameter 19 = .ok (.iconst 1, 1) := by decide +kernel
theorem dX1_isParameter_20 : decode cX1_isParameter 20 = .ok (.goto 4, 3) := by decide +kernel
theorem dX1_isParameter_23 : decode cX1_isParameter 23 = .ok (.iconst 0, 1) := by decide +kernel
theorem dX1_isParameter_24 : decode cX1_isParameter 24 = .ok (.ireturn, 1) := by decide +kernel
theorem dX1_append_0 : decode cX1_append 0 = .ok (.aload_n 0, 1) := by decide +kernel
theorem dX1_append_1 : decode cX1_append 1 = .ok (.getfield 21, 3) := by decide +kernel
theorem dX1_append_4 : decode cX1_append 4 = .ok (.ifCond .lt 12, 3) := by decide +kernel
theorem dX1_append_7 : decode cX1_append 7 = .ok (.aload_n 0, 1) := by decide +kernel
theorem dX1_append_8 : decode cX1_append 8 = .ok (.getfield 21, 3) := by decide +kernel
theorem dX1_append_11 : decode cX1_append 11 = .ok (.bipush 6, 2) := by decide +kernel
theorem dX1_append_13 : decode cX1_append 13 = .ok (.if_icmp .lt 4, 3) := by decide +kernel
theorem dX1_append_16 : decode cX1_append 16 = .ok (.return_, 1) := by decide +kernel
theorem dX1_append_17 : decode cX1_append 17 = .ok (.aload_n 0, 1) := by decide +kernel
theorem dX1_append_18 : decode cX1_append 18 = .ok (.getfield 21, 3) := by decide +kernel
theorem dX1_append_21 : decode cX1_append 21 = .ok (.iconst 3, 1) := by decide +kernel
theorem dX1_append_22 : decode cX1_append 22 = .ok (.imul, 1) := by decide +kernel
theorem dX1_append_23 : decode cX1_append 23 = .ok (.istore 6, 2) := by decide +kernel
theorem dX1_append_25 : decode cX1_append 25 = .ok (.aload_n 0, 1) := by decide +kernel
theorem dX1_append_26 : decode cX1_append 26 = .ok (.getfield 24, 3) := by decide +kernel
theorem dX1_append_29 : decode cX1_append 29 = .ok (.aload_n 0, 1) := by decide +kernel
theorem dX1_append_30 : decode cX1_append 30 = .ok (.getfield 21, 3) := by decide +kernel
theorem dX1_append_33 : decode cX1_append 33 = .ok (.iload_n 1, 1) := by decide +kernel
theorem dX1_append_34 : decode cX1_append 34 = .ok (.iastore, 1) := by decide +kernel
theorem dX1_append_35 : decode cX1_append 35 = .ok (.aload_n 0, 1) := by decide +kernel
theorem dX1_append_36 : decode cX1_append 36 = .ok (.getfield 28, 3) := by decide +kernel
theorem dX1_append_39 : decode cX1_append 39 = .ok (.iload 6, 2) := by decide +kernel
theorem dX1_append_41 : decode cX1_append 41 = .ok (.iload_n 2, 1) := by decide +kernel
theorem dX1_append_42 : decode cX1_append 42 = .ok (.iastore, 1) := by decide +kernel
theorem dX1_append_43 : decode cX1_append 43 = .ok (.aload_n 0, 1) := by decide +kernel
theorem dX1_append_44 : decode cX1_append 44 = .ok (.getfield 28, 3) := by decide +kernel
theorem dX1_append_47 : decode cX1_append 47 = .ok (.iload 6, 2) := by decide +kernel
theorem dX1_append_49 : decode cX1_append 49 = .ok (.iconst 1, 1) := by decide +kernel
theorem dX1_append_50 : decode cX1_append 50 = .ok (.iadd, 1) := by decide +kernel
theorem dX1_append_51 : decode cX1_append 51 = .ok (.iload_n 3, 1) := by decide +kernel
theorem dX1_append_52 : decode cX1_append 52 = .ok (.iastore, 1) := by decide +kernel
theorem dX1_append_53 : decode cX1_append 53 = .ok (.aload_n 0, 1) := by decide +kernel
theorem dX1_append_54 : decode cX1_append 54 = .ok (.getfield 28, 3) := by decide +kernel
theorem dX1_append_57 : decode cX1_append 57 = .ok (.iload 6, 2) := by decide +kernel
theorem dX1_append_59 : decode cX1_append 59 = .ok (.iconst 2, 1) := by decide +kernel
theorem dX1_append_60 : decode cX1_append 60 = .ok (.iadd, 1) := by decide +kernel
theorem dX1_append_61 : decode cX1_append 61 = .ok (.iload 4, 2) := by decide +kernel
theorem dX1_append_63 : decode cX1_append 63 = .ok (.iastore, 1) := by decide +kernel
theorem dX1_append_64 : decode cX1_append 64 = .ok (.aload_n 0, 1) := by decide +kernel
theorem dX1_append_65 : decode cX1_append 65 = .ok (.getfield 31, 3) := by decide +kernel
theorem dX1_append_68 : decode cX1_append 68 = .ok (.iload 6, 2) := by decide +kernel
theorem dX1_append_70 : decode cX1_append 70 = .ok (.iconst 2, 1) := by decide +kernel
theorem dX1_append_71 : decode cX1_append 71 = .ok (.iadd, 1) := by decide +kernel
theorem dX1_append_72 : decode cX1_append 72 = .ok (.aload_n 0, 1) := by decide +kernel
theorem dX1_append_73 : decode cX1_append 73 = .ok (.iload 4, 2) := by decide +kernel
theorem dX1_append_75 : decode cX1_append 75 = .ok (.invokevirtual 41, 3) := by decide +kernel
theorem dX1_append_78 : decode cX1_append 78 = .ok (.ifCond .eq 7, 3) := by decide +kernel
theorem dX1_append_81 : decode cX1_append 81 = .ok (.iconst 1, 1) := by decide +kernel
theorem dX1_append_82 : decode cX1_append 82 = .ok (.goto 4, 3) := by decide +kernel
theorem dX1_append_85 : decode cX1_append 85 = .ok (.iconst 0, 1) := by decide +kernel
theorem dX1_append_86 : decode cX1_append 86 = .ok (.iastore, 1) := by decide +kernel
theorem dX1_append_87 : decode cX1_append 87 = .ok (.aload_n 0, 1) := by decide +kernel
theorem dX1_append_88 : decode cX1_append 88 = .ok (.getfield 31, 3) := by decide +kernel
theorem dX1_append_91 : decode cX1_append 91 = .ok (.iload 6, 2) := by decide +kernel
theorem dX1_append_93 : decode cX1_append 93 = .ok (.iconst 1, 1) := by decide +kernel
theorem dX1_append_94 : decode cX1_append 94 = .ok (.iadd, 1) := by decide +kernel
theorem dX1_append_95 : decode cX1_append 95 = .ok (.aload_n 0, 1) := by decide +kernel
theorem dX1_append_96 : decode cX1_append 96 = .ok (.getfield 31, 3) := by decide +kernel
theorem dX1_append_99 : decode cX1_append 99 = .ok (.iload 6, 2) := by decide +kernel
theorem dX1_append_101 : decode cX1_append 101 = .ok (.iconst 2, 1) := by decide +kernel
theorem dX1_append_102 : decode cX1_append 102 = .ok (.iadd, 1) := by decide +kernel
theorem dX1_append_103 : decode cX1_append 103 = .ok (.iaload, 1) := by decide +kernel
theorem dX1_append_104 : decode cX1_append 104 = .ok (.aload_n 0, 1) := by decide +kernel
theorem dX1_append_105 : decode cX1_append 105 = .ok (.iload_n 3, 1) := by decide +kernel
theorem dX1_append_106 : decode cX1_append 106 = .ok (.invokevirtual 41, 3) := by decide +kernel
theorem dX1_append_109 : decode cX1_append 109 = .ok (.ifCond .eq 7, 3) := by decide +kernel
theorem dX1_append_112 : decode cX1_append 112 = .ok (.iconst 1, 1) := by decide +kernel
theorem dX1_append_113 : decode cX1_append 113 = .ok (.goto 4, 3) := by decide +kernel
theorem dX1_append_116 : decode cX1_append 116 = .ok (.iconst 0, 1) := by decide +kernel
theorem dX1_append_117 : decode cX1_append 117 = .ok (.iadd, 1) := by decide +kernel
theorem dX1_append_118 : decode cX1_append 118 = .ok (.iastore, 1) := by decide +kernel
theorem dX1_append_119 : decode cX1_append 119 = .ok (.aload_n 0, 1) := by decide +kernel
theorem dX1_append_120 : decode cX1_append 120 = .ok (.getfield 31, 3) := by decide +kernel
theorem dX1_append_123 : decode cX1_append 123 = .ok (.iload 6, 2) := by decide +kernel
theorem dX1_append_125 : decode cX1_append 125 = .ok (.aload_n 0, 1) := by decide +kernel
theorem dX1_append_126 : decode cX1_append 126 = .ok (.getfield 31, 3) := by decide +kernel
theorem dX1_append_129 : decode cX1_append 129 = .ok (.iload 6, 2) := by decide +kernel
theorem dX1_append_131 : decode cX1_append 131 = .ok (.iconst 1, 1) := by decide +kernel
theorem dX1_append_132 : decode cX1_append 132 = .ok (.iadd, 1) := by decide +kernel
theorem dX1_append_133 : decode cX1_append 133 = .ok (.iaload, 1) := by decide +kernel
theorem dX1_append_134 : decode cX1_append 134 = .ok (.aload_n 0, 1) := by decide +kernel
theorem dX1_append_135 : decode cX1_append 135 = .ok (.iload_n 2, 1) := by decide +kernel
theorem dX1_append_136 : decode cX1_append 136 = .ok (.invokevirtual 41, 3) := by decide +kernel
theorem dX1_append_139 : decode cX1_append 139 = .ok (.ifCond .eq 7, 3) := by decide +kernel
theorem dX1_append_142 : decode cX1_append 142 = .ok (.iconst 1, 1) := by decide +kernel
theorem dX1_append_143 : decode cX1_append 143 = .ok (.goto 4, 3) := by decide +kernel
theorem dX1_append_146 : decode cX1_append 146 = .ok (.iconst 0, 1) := by decide +kernel
theorem dX1_append_147 : decode cX1_append 147 = .ok (.iadd, 1) := by decide +kernel
theorem dX1_append_148 : decode cX1_append 148 = .ok (.iastore, 1) := by decide +kernel
theorem dX1_append_149 : decode cX1_append 149 = .ok (.aload_n 0, 1) := by decide +kernel
theorem dX1_append_150 : decode cX1_append 150 = .ok (.getfield 34, 3) := by decide +kernel
theorem dX1_append_153 : decode cX1_append 153 = .ok (.aload_n 0, 1) := by decide +kernel
theorem dX1_append_154 : decode cX1_append 154 = .ok (.getfield 21, 3) := by decide +kernel
theorem dX1_append_157 : decode cX1_append 157 = .ok (.iload 5, 2) := by decide +kernel
theorem dX1_append_159 : decode cX1_append 159 = .ok (.iastore, 1) := by decide +kernel
theorem dX1_append_160 : decode cX1_append 160 = .ok (.aload_n 0, 1) := by decide +kernel
theorem dX1_append_161 : decode cX1_append 161 = .ok (.dup, 1) := by decide +kernel
theorem dX1_append_162 : decode cX1_append 162 = .ok (.getfield 21, 3) := by decide +kernel
theorem dX1_append_165 : decode cX1_append 165 = .ok (.iconst 1, 1) := by decide +kernel
theorem dX1_append_166 : decode cX1_append 166 = .ok (.iadd, 1) := by decide +kernel
theorem dX1_append_167 : decode cX1_append 167 = .ok (.putfield 21, 3) := by decide +kernel
theorem dX1_append_170 : decode cX1_append 170 = .ok (.return_, 1) := by decide +kernel
theorem dX1_typeOf_0 : decode cX1_typeOf 0 = .ok (.aload_n 0, 1) := by decide +kernel
theorem dX1_typeOf_1 : decode cX1_typeOf 1 = .ok (.iload_n 1, 1) := by decide +kernel
theorem dX1_typeOf_2 : decode cX1_typeOf 2 = .ok (.invokevirtual 44, 3) := by decide +kernel
theorem dX1_typeOf_5 : decode cX1_typeOf 5 = .ok (.ifCond .eq 12, 3) := by decide +kernel
theorem dX1_typeOf_8 : decode cX1_typeOf 8 = .ok (.aload_n 0, 1) := by decide +kernel
theorem dX1_typeOf_9 : decode cX1_typeOf 9 = .ok (.getfield 24, 3) := by decide +kernel
theorem dX1_typeOf_12 : decode cX1_typeOf 12 = .ok (.iload_n 1, 1) := by decide +kernel
theorem dX1_typeOf_13 : decode cX1_typeOf 13 = .ok (.iaload, 1) := by decide +kernel
theorem dX1_typeOf_14 : decode cX1_typeOf 14 = .ok (.goto 4, 3) := by decide +kernel
theorem dX1_typeOf_17 : decode cX1_typeOf 17 = .ok (.iconst (-1), 1) := by decide +kernel
theorem dX1_typeOf_18 : decode cX1_typeOf 18 = .ok (.ireturn, 1) := by decide +kernel
theorem dX1_conditionOf_0 : decode cX1_conditionOf 0 = .ok (.aload_n 0, 1) := by decide +kernel
theorem dX1_conditionOf_1 : decode cX1_conditionOf 1 = .ok (.iload_n 1, 1) := by decide +kernel
theorem dX1_conditionOf_2 : decode cX1_conditionOf 2 = .ok (.invokevirtual 44, 3) := by decide +kernel
theorem dX1_conditionOf_5 : decode cX1_conditionOf 5 = .ok (.ifCond .eq 12, 3) := by decide +kernel
theorem dX1_conditionOf_8 : decode cX1_conditionOf 8 = .ok (.aload_n 0, 1) := by decide +kernel
theorem dX1_conditionOf_9 : decode cX1_conditionOf 9 = .ok (.getfield 34, 3) := by decide +kernel
theorem dX1_conditionOf_12 : decode cX1_conditionOf 12 = .ok (.iload_n 1, 1) := by decide +kernel
theorem dX1_conditionOf_13 : decode cX1_conditionOf 13 = .ok (.iaload, 1) := by decide +kernel
theorem dX1_conditionOf_14 : decode cX1_conditionOf 14 = .ok (.goto 4, 3) := by decide +kernel
theorem dX1_conditionOf_17 : decode cX1_conditionOf 17 = .ok (.iconst 0, 1) := by decide +kernel
theorem dX1_conditionOf_18 : decode cX1_conditionOf 18 = .ok (.ireturn, 1) := by decide +kernel
theorem dX1_parameter_0 : decode cX1_parameter 0 = .ok (.aload_n 0, 1) := by decide +kernel
theorem dX1_parameter_1 : decode cX1_parameter 1 = .ok (.iload_n 1, 1) := by decide +kernel
theorem dX1_parameter_2 : decode cX1_parameter 2 = .ok (.invokevirtual 44, 3) := by decide +kernel
theorem dX1_parameter_5 : decode cX1_parameter 5 = .ok (.ifCond .eq 12, 3) := by decide +kernel
theorem dX1_parameter_8 : decode cX1_parameter 8 = .ok (.iload_n 2, 1) := by decide +kernel
theorem dX1_parameter_9 : decode cX1_parameter 9 = .ok (.ifCond .lt 8, 3) := by decide +kernel
theorem dX1_parameter_12 : decode cX1_parameter 12 = .ok (.iload_n 2, 1) := by decide +kernel
theorem dX1_parameter_13 : decode cX1_parameter 13 = .ok (.iconst 3, 1) := by decide +kernel
theorem dX1_parameter_14 : decode cX1_parameter 14 = .ok (.if_icmp .lt 5, 3) := by decide +kernel
theorem dX1_parameter_17 : decode cX1_parameter 17 = .ok (.iconst (-1), 1) := by decide +kernel
theorem dX1_parameter_18 : decode cX1_parameter 18 = .ok (.ireturn, 1) := by decide +kernel
theorem dX1_parameter_19 : decode cX1_parameter 19 = .ok (.aload_n 0, 1) := by decide +kernel
theorem dX1_parameter_20 : decode cX1_parameter 20 = .ok (.getfield 28, 3) := by decide +kernel
theorem dX1_parameter_23 : decode cX1_parameter 23 = .ok (.iload_n 1, 1) := by decide +kernel
theorem dX1_parameter_24 : decode cX1_parameter 24 = .ok (.iconst 3, 1) := by decide +kernel
theorem dX1_parameter_25 : decode cX1_parameter 25 = .ok (.imul, 1) := by decide +kernel
theorem dX1_parameter_26 : decode cX1_parameter 26 = .ok (.iload_n 2, 1) := by decide +kernel
theorem dX1_parameter_27 : decode cX1_parameter 27 = .ok (.iadd, 1) := by decide +kernel
theorem dX1_parameter_28 : decode cX1_parameter 28 = .ok (.iaload, 1) := by decide +kernel
theorem dX1_parameter_29 : decode cX1_parameter 29 = .ok (.ireturn, 1) := by decide +kernel
theorem dX1_typesFrom_0 : decode cX1_typesFrom 0 = .ok (.aload_n 0, 1) := by decide +kernel
theorem dX1_typesFrom_1 : decode cX1_typesFrom 1 = .ok (.iload_n 1, 1) := by decide +kernel
theorem dX1_typesFrom_2 : decode cX1_typesFrom 2 = .ok (.invokevirtual 44, 3) := by decide +kernel
theorem dX1_typesFrom_5 : decode cX1_typesFrom 5 = .ok (.ifCond .eq 12, 3) := by decide +kernel
theorem dX1_typesFrom_8 : decode cX1_typesFrom 8 = .ok (.iload_n 2, 1) := by decide +kernel
theorem dX1_typesFrom_9 : decode cX1_typesFrom 9 = .ok (.ifCond .lt 8, 3) := by decide +kernel
theorem dX1_typesFrom_12 : decode cX1_typesFrom 12 = .ok (.iload_n 2, 1) := by decide +kernel
theorem dX1_typesFrom_13 : decode cX1_typesFrom 13 = .ok (.iconst 3, 1) := by decide +kernel
theorem dX1_typesFrom_14 : decode cX1_typesFrom 14 = .ok (.if_icmp .lt 5, 3) := by decide +kernel
theorem dX1_typesFrom_17 : decode cX1_typesFrom 17 = .ok (.iconst 0, 1) := by decide +kernel
theorem dX1_typesFrom_18 : decode cX1_typesFrom 18 = .ok (.ireturn, 1) := by decide +kernel
theorem dX1_typesFrom_19 : decode cX1_typesFrom 19 = .ok (.aload_n 0, 1) := by decide +kernel
theorem dX1_typesFrom_20 : decode cX1_typesFrom 20 = .ok (.getfield 31, 3) := by decide +kernel
theorem dX1_typesFrom_23 : decode cX1_typesFrom 23 = .ok (.iload_n 1, 1) := by decide +kernel
theorem dX1_typesFrom_24 : decode cX1_typesFrom 24 = .ok (.iconst 3, 1) := by decide +kernel
theorem dX1_typesFrom_25 : decode cX1_typesFrom 25 = .ok (.imul, 1) := by decide +kernel
theorem dX1_typesFrom_26 : decode cX1_typesFrom 26 = .ok (.iload_n 2, 1) := by decide +kernel
theorem dX1_typesFrom_27 : decode cX1_typesFrom 27 = .ok (.iadd, 1) := by decide +kernel
theorem dX1_typesFrom_28 : decode cX1_typesFrom 28 = .ok (.iaload, 1) := by decide +kernel
theorem dX1_typesFrom_29 : decode cX1_typesFrom 29 = .ok (.ireturn, 1) := by decide +kernel
theorem dX2_init_0 : decode cX2_init 0 = .ok (.aload_n 0, 1) := by decide +kernel
theorem dX2_init_1 : decode cX2_init 1 = .ok (.invokespecial 3, 3) := by decide +kernel
theorem dX2_init_4 : decode cX2_init 4 = .ok (.aload_n 0, 1) := by decide +kernel
theorem dX2_init_5 : decode cX2_init 5 = .ok (.sipush 300, 3) := by decide +kernel
theorem dX2_init_8 : decode cX2_init 8 = .ok (.anewarray 9, 3) := by decide +kernel
theorem dX2_init_11 : decode cX2_init 11 = .ok (.putfield 11, 3) := by decide +kernel
theorem dX2_init_14 : decode cX2_init 14 = .ok (.aload_n 0, 1) := by decide +kernel
theorem dX2_init_15 : decode cX2_init 15 = .ok (.iconst 0, 1) := by decide +kernel
theorem dX2_init_16 : decode cX2_init 16 = .ok (.putfield 17, 3) := by decide +kernel
theorem dX2_init_19 : decode cX2_init 19 = .ok (.return_, 1) := by decide +kernel
theorem dX2_at_0 : decode cX2_at 0 = .ok (.iload_n 1, 1) := by decide +kernel
theorem dX2_at_1 : decode cX2_at 1 = .ok (.ifCond .lt 29, 3) := by decide +kernel
theorem dX2_at_4 : decode cX2_at 4 = .ok (.iload_n 1, 1) := by decide +kernel
theorem dX2_at_5 : decode cX2_at 5 = .ok (.aload_n 0, 1) := by decide +kernel
theorem dX2_at_6 : decode cX2_at 6 = .ok (.getfield 17, 3) := by decide +kernel
theorem dX2_at_9 : decode cX2_at 9 = .ok (.if_icmp .ge 21, 3) := by decide +kernel
theorem dX2_at_12 : decode cX2_at 12 = .ok (.iload_n 1, 1) := by decide +kernel
theorem dX2_at_13 : decode cX2_at 13 = .ok (.aload_n 0, 1) := by decide +kernel
theorem dX2_at_14 : decode cX2_at 14 = .ok (.getfield 11, 3) := by decide +kernel
theorem dX2_at_17 : decode cX2_at 17 = .ok (.arraylength, 1) := by decide +kernel
theorem dX2_at_18 : decode cX2_at 18 = .ok (.if_icmp .ge 12, 3) := by decide +kernel
theorem dX2_at_21 : decode cX2_at 21 = .ok (.aload_n 0, 1) := by decide +kernel
theorem dX2_at_22 : decode cX2_at 22 = .ok (.getfield 11, 3) := by decide +kernel
theorem dX2_at_25 : decode cX2_at 25 = .ok (.iload_n 1, 1) := by decide +kernel
theorem dX2_at_26 : decode cX2_at 26 = .ok (.aaload, 1) := by decide +kernel
theorem dX2_at_27 : decode cX2_at 27 = .ok (.goto 4, 3) := by decide +kernel
theorem dX2_at_30 : decode cX2_at 30 = .ok (.aconst_null, 1) := by decide +kernel
theorem dX2_at_31 : decode cX2_at 31 = .ok (.areturn, 1) := by decide +kernel
theorem dX2_firstUnfit_0 : decode cX2_firstUnfit 0 = .ok (.iconst 0, 1) := by decide +kernel
theorem dX2_firstUnfit_1 : decode cX2_firstUnfit 1 = .ok (.istore_n 2, 1) := by decide +kernel
theorem dX2_firstUnfit_2 : decode cX2_firstUnfit 2 = .ok (.iload_n 2, 1) := by decide +kernel
theorem dX2_firstUnfit_3 : decode cX2_firstUnfit 3 = .ok (.aload_n 0, 1) := by decide +kernel
theorem dX2_firstUnfit_4 : decode cX2_firstUnfit 4 = .ok (.getfield 17, 3) := by decide +kernel
theorem dX2_firstUnfit_7 : decode cX2_firstUnfit 7 = .ok (.if_icmp .ge 29, 3) := by decide +kernel
theorem dX2_firstUnfit_10 : decode cX2_firstUnfit 10 = .ok (.aload_n 0, 1) := by decide +kernel
theorem dX2_firstUnfit_11 : decode cX2_firstUnfit 11 = .ok (.iload_n 2, 1) := by decide +kernel
theorem dX2_firstUnfit_12 : decode cX2_firstUnfit 12 = .ok (.invokevirtual 21, 3) := by decide +kernel
theorem dX2_firstUnfit_15 : decode cX2_firstUnfit 15 = .ok (.astore_n 3, 1) := by decide +kernel
theorem dX2_firstUnfit_16 : decode cX2_firstUnfit 16 = .ok (.aload_n 3, 1) := by decide +kernel
theorem dX2_firstUnfit_17 : decode cX2_firstUnfit 17 = .ok (.ifnull 13, 3) := by decide +kernel
theorem dX2_firstUnfit_20 : decode cX2_firstUnfit 20 = .ok (.aload_n 3, 1) := by decide +kernel
theorem dX2_firstUnfit_21 : decode cX2_firstUnfit 21 = .ok (.iload_n 1, 1) := by decide +kernel
theorem dX2_firstUnfit_22 : decode cX2_firstUnfit 22 = .ok (.invokevirtual 25, 3) := by decide +kernel
theorem dX2_firstUnfit_25 : decode cX2_firstUnfit 25 = .ok (.ifCond .ne 5, 3) := by decide +kernel
theorem dX2_firstUnfit_28 : decode cX2_firstUnfit 28 = .ok (.aload_n 3, 1) := by decide +kernel
theorem dX2_firstUnfit_29 : decode cX2_firstUnfit 29 = .ok (.areturn, 1) := by decide +kernel
theorem dX2_firstUnfit_30 : decode cX2_firstUnfit 30 = .ok (.iinc 2 1, 3) := by decide +kernel
theorem dX2_firstUnfit_33 : decode cX2_firstUnfit 33 = .ok (.goto (-31), 3) := by decide +kernel
theorem dX2_firstUnfit_36 : decode cX2_firstUnfit 36 = .ok (.aconst_null, 1) := by decide +kernel
theorem dX2_firstUnfit_37 : decode cX2_firstUnfit 37 = .ok (.areturn, 1) := by decide +kernel
theorem dX2_collect_0 : decode cX2_collect 0 = .ok (.aload_n 0, 1) := by decide +kernel
theorem dX2_collect_1 : decode cX2_collect 1 = .ok (.iconst 0, 1) := by decide +kernel
theorem dX2_collect_2 : decode cX2_collect 2 = .ok (.putfield 17, 3) := by decide +kernel
theorem dX2_collect_5 : decode cX2_collect 5 = .ok (.aload_n 0, 1) := by decide +kernel
theorem dX2_collect_6 : decode cX2_collect 6 = .ok (.aload_n 1, 1) := by decide +kernel
theorem dX2_collect_7 : decode cX2_collect 7 = .ok (.aload_n 1, 1) := by decide +kernel
theorem dX2_collect_8 : decode cX2_collect 8 = .ok (.getfield 29, 3) := by decide +kernel
theorem dX2_collect_11 : decode cX2_collect 11 = .ok (.iconst 0, 1) := by decide +kernel
theorem dX2_collect_12 : decode cX2_collect 12 = .ok (.invokevirtual 32, 3) := by decide +kernel
theorem dX2_collect_15 : decode cX2_collect 15 = .ok (.aload_n 2, 1) := by decide +kernel
theorem dX2_collect_16 : decode cX2_collect 16 = .ok (.aload_n 1, 1) := by decide +kernel
theorem dX2_collect_17 : decode cX2_collect 17 = .ok (.getfield 29, 3) := by decide +kernel
theorem dX2_collect_20 : decode cX2_collect 20 = .ok (.aload_n 1, 1) := by decide +kernel
theorem dX2_collect_21 : decode cX2_collect 21 = .ok (.getfield 36, 3) := by decide +kernel
theorem dX2_collect_24 : decode cX2_collect 24 = .ok (.iconst 1, 1) := by decide +kernel
theorem dX2_collect_25 : decode cX2_collect 25 = .ok (.isub, 1) := by decide +kernel
theorem dX2_collect_26 : decode cX2_collect 26 = .ok (.invokevirtual 39, 3) := by decide +kernel
theorem dX2_collect_29 : decode cX2_collect 29 = .ok (.istore_n 3, 1) := by decide +kernel
theorem dX2_collect_30 : decode cX2_collect 30 = .ok (.iload_n 3, 1) := by decide +kernel
theorem dX2_collect_31 : decode cX2_collect 31 = .ok (.aload_n 1, 1) := by decide +kernel
theorem dX2_collect_32 : decode cX2_collect 32 = .ok (.getfield 45, 3) := by decide +kernel
theorem dX2_collect_35 : decode cX2_collect 35 = .ok (.if_icmp .ge 36, 3) := by decide +kernel
theorem dX2_collect_38 : decode cX2_collect 38 = .ok (.aload_n 2, 1) := by decide +kernel
theorem dX2_collect_39 : decode cX2_collect 39 = .ok (.aload_n 1, 1) := by decide +kernel
theorem dX2_collect_40 : decode cX2_collect 40 = .ok (.getfield 29, 3) := by decide +kernel
theorem dX2_collect_43 : decode cX2_collect 43 = .ok (.iload_n 3, 1) := by decide +kernel
theorem dX2_collect_44 : decode cX2_collect 44 = .ok (.invokevirtual 48, 3) := by decide +kernel
theorem dX2_collect_47 : decode cX2_collect 47 = .ok (.astore 4, 2) := by decide +kernel
theorem dX2_collect_49 : decode cX2_collect 49 = .ok (.aload_n 1, 1) := by decide +kernel
theorem dX2_collect_50 : decode cX2_collect 50 = .ok (.aload 4, 2) := by decide +kernel
theorem dX2_collect_52 : decode cX2_collect 52 = .ok (.invokevirtual 52, 3) := by decide +kernel
theorem dX2_collect_55 : decode cX2_collect 55 = .ok (.iconst 1, 1) := by decide +kernel
theorem dX2_collect_56 : decode cX2_collect 56 = .ok (.if_icmp .ne 9, 3) := by decide +kernel
theorem dX2_collect_59 : decode cX2_collect 59 = .ok (.aload_n 0, 1) := by decide +kernel
theorem dX2_collect_60 : decode cX2_collect 60 = .ok (.aload 4, 2) := by decide +kernel
theorem dX2_collect_62 : decode cX2_collect 62 = .ok (.invokevirtual 56, 3) := by decide +kernel
theorem dX2_collect_65 : decode cX2_collect 65 = .ok (.iinc 3 1, 3) := by decide +kernel
theorem dX2_collect_68 : decode cX2_collect 68 = .ok (.goto (-38), 3) := by decide +kernel
theorem dX2_collect_71 : decode cX2_collect 71 = .ok (.return_, 1) := by decide +kernel
theorem dX2_addPartsOf_0 : decode cX2_addPartsOf 0 = .ok (.iconst 0, 1) := by decide +kernel
theorem dX2_addPartsOf_1 : decode cX2_addPartsOf 1 = .ok (.istore 4, 2) := by decide +kernel
theorem dX2_addPartsOf_3 : decode cX2_addPartsOf 3 = .ok (.iload 4, 2) := by decide +kernel
theorem dX2_addPartsOf_5 : decode cX2_addPartsOf 5 = .ok (.iconst 3, 1) := by decide +kernel
theorem dX2_addPartsOf_6 : decode cX2_addPartsOf 6 = .ok (.if_icmp .ge 65, 3) := by decide +kernel
theorem dX2_addPartsOf_9 : decode cX2_addPartsOf 9 = .ok (.iload_n 3, 1) := by decide +kernel
theorem dX2_addPartsOf_10 : decode cX2_addPartsOf 10 = .ok (.bipush 8, 2) := by decide +kernel
theorem dX2_addPartsOf_12 : decode cX2_addPartsOf 12 = .ok (.if_icmp .gt 59, 3) := by decide +kernel
theorem dX2_addPartsOf_15 : decode cX2_addPartsOf 15 = .ok (.aload_n 1, 1) := by decide +kernel
theorem dX2_addPartsOf_16 : decode cX2_addPartsOf 16 = .ok (.iload 4, 2) := by decide +kernel
theorem dX2_addPartsOf_18 : decode cX2_addPartsOf 18 = .ok (.invokevirtual 60, 3) := by decide +kernel
theorem dX2_addPartsOf_21 : decode cX2_addPartsOf 21 = .ok (.astore 5, 2) := by decide +kernel
theorem dX2_addPartsOf_23 : decode cX2_addPartsOf 23 = .ok (.aload 5, 2) := by decide +kernel
theorem dX2_addPartsOf_25 : decode cX2_addPartsOf 25 = .ok (.ifnull 40, 3) := by decide +kernel
theorem dX2_addPartsOf_28 : decode cX2_addPartsOf 28 = .ok (.aload 5, 2) := by decide +kernel
theorem dX2_addPartsOf_30 : decode cX2_addPartsOf 30 = .ok (.getfield 29, 3) := by decide +kernel
theorem dX2_addPartsOf_33 : decode cX2_addPartsOf 33 = .ok (.iload_n 2, 1) := by decide +kernel
theorem dX2_addPartsOf_34 : decode cX2_addPartsOf 34 = .ok (.if_icmp .ne 21, 3) := by decide +kernel
theorem dX2_addPartsOf_37 : decode cX2_addPartsOf 37 = .ok (.aload_n 0, 1) := by decide +kernel
theorem dX2_addPartsOf_38 : decode cX2_addPartsOf 38 = .ok (.aload 5, 2) := by decide +kernel
theorem dX2_addPartsOf_40 : decode cX2_addPartsOf 40 = .ok (.getfield 45, 3) := by decide +kernel
theorem dX2_addPartsOf_43 : decode cX2_addPartsOf 43 = .ok (.invokevirtual 63, 3) := by decide +kernel
theorem dX2_addPartsOf_46 : decode cX2_addPartsOf 46 = .ok (.ifCond .ne 9, 3) := by decide +kernel
theorem dX2_addPartsOf_49 : decode cX2_addPartsOf 49 = .ok (.aload_n 0, 1) := by decide +kernel
theorem dX2_addPartsOf_50 : decode cX2_addPartsOf 50 = .ok (.aload 5, 2) := by decide +kernel
theorem dX2_addPartsOf_52 : decode cX2_addPartsOf 52 = .ok (.invokevirtual 56, 3) := by decide +kernel
theorem dX2_addPartsOf_55 : decode cX2_addPartsOf 55 = .ok (.aload_n 0, 1) := by decide +kernel
theorem dX2_addPartsOf_56 : decode cX2_addPartsOf 56 = .ok (.aload 5, 2) := by decide +kernel
theorem dX2_addPartsOf_58 : decode cX2_addPartsOf 58 = .ok (.iload_n 2, 1) := by decide +kernel
theorem dX2_addPartsOf_59 : decode cX2_addPartsOf 59 = .ok (.iload_n 3, 1) := by decide +kernel
theorem dX2_addPartsOf_60 : decode cX2_addPartsOf 60 = .ok (.iconst 1, 1) := by decide +kernel
theorem dX2_addPartsOf_61 : decode cX2_addPartsOf 61 = .ok (.iadd, 1) := by decide +kernel
theorem dX2_addPartsOf_62 : decode cX2_addPartsOf 62 = .ok (.invokevirtual 32, 3) := by decide +kernel
theorem dX2_addPartsOf_65 : decode cX2_addPartsOf 65 = .ok (.iinc 4 1, 3) := by decide +kernel
theorem dX2_addPartsOf_68 : decode cX2_addPartsOf 68 = .ok (.goto (-65), 3) := by decide +kernel
theorem dX2_addPartsOf_71 : decode cX2_addPartsOf 71 = .ok (.return_, 1) := by decide +kernel
theorem dX2_has_0 : decode cX2_has 0 = .ok (.iconst 0, 1) := by decide +kernel
theorem dX2_has_1 : decode cX2_has 1 = .ok (.istore_n 2, 1) := by decide +kernel
theorem dX2_has_2 : decode cX2_has 2 = .ok (.iload_n 2, 1) := by decide +kernel
theorem dX2_has_3 : decode cX2_has 3 = .ok (.aload_n 0, 1) := by decide +kernel
theorem dX2_has_4 : decode cX2_has 4 = .ok (.getfield 17, 3) := by decide +kernel
theorem dX2_has_7 : decode cX2_has 7 = .ok (.if_icmp .ge 29, 3) := by decide +kernel
theorem dX2_has_10 : decode cX2_has 10 = .ok (.aload_n 0, 1) := by decide +kernel
theorem dX2_has_11 : decode cX2_has 11 = .ok (.iload_n 2, 1) := by decide +kernel
theorem dX2_has_12 : decode cX2_has 12 = .ok (.invokevirtual 21, 3) := by decide +kernel
theorem dX2_has_15 : decode cX2_has 15 = .ok (.astore_n 3, 1) := by decide +kernel
theorem dX2_has_16 : decode cX2_has 16 = .ok (.aload_n 3, 1) := by decide +kernel
theorem dX2_has_17 : decode cX2_has 17 = .ok (.ifnull 13, 3) := by decide +kernel
theorem dX2_has_20 : decode cX2_has 20 = .ok (.aload_n 3, 1) := by decide +kernel
theorem dX2_has_21 : decode cX2_has 21 = .ok (.getfield 45, 3) := by decide +kernel
theorem dX2_has_24 : decode cX2_has 24 = .ok (.iload_n 1, 1) := by decide +kernel
theorem dX2_has_25 : decode cX2_has 25 = .ok (.if_icmp .ne 5, 3) := by decide +kernel
theorem dX2_has_28 : decode cX2_has 28 = .ok (.iconst 1, 1) := by decide +kernel
theorem dX2_has_29 : decode cX2_has 29 = .ok (.ireturn, 1) := by decide +kernel
theorem dX2_has_30 : decode cX2_has 30 = .ok (.iinc 2 1, 3) := by decide +kernel
theorem dX2_has_33 : decode cX2_has 33 = .ok (.goto (-31), 3) := by decide +kernel
theorem dX2_has_36 : decode cX2_has 36 = .ok (.iconst 0, 1) := by decide +kernel
theorem dX2_has_37 : decode cX2_has 37 = .ok (.ireturn, 1) := by decide +kernel
theorem dX2_append_0 : decode cX2_append 0 = .ok (.aload_n 0, 1) := by decide +kernel
theorem dX2_append_1 : decode cX2_append 1 = .ok (.getfield 17, 3) := by decide +kernel
theorem dX2_append_4 : decode cX2_append 4 = .ok (.ifCond .lt 35, 3) := by decide +kernel
theorem dX2_append_7 : decode cX2_append 7 = .ok (.aload_n 0, 1) := by decide +kernel
theorem dX2_append_8 : decode cX2_append 8 = .ok (.getfield 17, 3) := by decide +kernel
theorem dX2_append_11 : decode cX2_append 11 = .ok (.aload_n 0, 1) := by decide +kernel
theorem dX2_append_12 : decode cX2_append 12 = .ok (.getfield 11, 3) := by decide +kernel
theorem dX2_append_15 : decode cX2_append 15 = .ok (.arraylength, 1) := by decide +kernel
theorem dX2_append_16 : decode cX2_append 16 = .ok (.if_icmp .ge 23, 3) := by decide +kernel
theorem dX2_append_19 : decode cX2_append 19 = .ok (.aload_n 0, 1) := by decide +kernel
theorem dX2_append_20 : decode cX2_append 20 = .ok (.getfield 11, 3) := by decide +kernel
theorem dX2_append_23 : decode cX2_append 23 = .ok (.aload_n 0, 1) := by decide +kernel
theorem dX2_append_24 : decode cX2_append 24 = .ok (.getfield 17, 3) := by decide +kernel
theorem dX2_append_27 : decode cX2_append 27 = .ok (.aload_n 1, 1) := by decide +kernel
theorem dX2_append_28 : decode cX2_append 28 = .ok (.aastore, 1) := by decide +kernel
theorem dX2_append_29 : decode cX2_append 29 = .ok (.aload_n 0, 1) := by decide +kernel
theorem dX2_append_30 : decode cX2_append 30 = .ok (.dup, 1) := by decide +kernel
theorem dX2_append_31 : decode cX2_append 31 = .ok (.getfield 17, 3) := by decide +kernel
theorem dX2_append_34 : decode cX2_append 34 = .ok (.iconst 1, 1) := by decide +kernel
theorem dX2_append_35 : decode cX2_append 35 = .ok (.iadd, 1) := by decide +kernel
theorem dX2_append_36 : decode cX2_append 36 = .ok (.putfield 17, 3) := by decide +kernel
theorem dX2_append_39 : decode cX2_append 39 = .ok (.return_, 1) := by decide +kernel
theorem dX3_init_0 : decode cX3_init 0 = .ok (.aload_n 0, 1) := by decide +kernel
theorem dX3_init_1 : decode cX3_init 1 = .ok (.invokespecial 3, 3) := by decide +kernel
theorem dX3_init_4 : decode cX3_init 4 = .ok (.aload_n 0, 1) := by decide +kernel
theorem dX3_init_5 : decode cX3_init 5 = .ok (.aload_n 1, 1) := by decide +kernel
theorem dX3_init_6 : decode cX3_init 6 = .ok (.putfield 9, 3) := by decide +kernel
theorem dX3_init_9 : decode cX3_init 9 = .ok (.aload_n 0, 1) := by decide +kernel
theorem dX3_init_10 : decode cX3_init 10 = .ok (.sipush 300, 3) := by decide +kernel
theorem dX3_init_13 : decode cX3_init 13 = .ok (.anewarray 15, 3) := by decide +kernel
theorem dX3_init_16 : decode cX3_init 16 = .ok (.putfield 17, 3) := by decide +kernel
theorem dX3_init_19 : decode cX3_init 19 = .ok (.iconst 0, 1) := by decide +kernel
theorem dX3_init_20 : decode cX3_init 20 = .ok (.istore_n 2, 1) := by decide +kernel
theorem dX3_init_21 : decode cX3_init 21 = .ok (.iload_n 2, 1) := by decide +kernel
theorem dX3_init_22 : decode cX3_init 22 = .ok (.aload_n 0, 1) := by decide +kernel
theorem dX3_init_23 : decode cX3_init 23 = .ok (.getfield 17, 3) := by decide +kernel
theorem dX3_init_26 : decode cX3_init 26 = .ok (.arraylength, 1) := by decide +kernel
theorem dX3_init_27 : decode cX3_init 27 = .ok (.if_icmp .ge 22, 3) := by decide +kernel
theorem dX3_init_30 : decode cX3_init 30 = .ok (.aload_n 0, 1) := by decide +kernel
theorem dX3_init_31 : decode cX3_init 31 = .ok (.getfield 17, 3) := by decide +kernel
theorem dX3_init_34 : decode cX3_init 34 = .ok (.iload_n 2, 1) := by decide +kernel
theorem dX3_init_35 : decode cX3_init 35 = .ok (.new 15, 3) := by decide +kernel
theorem dX3_init_38 : decode cX3_init 38 = .ok (.dup, 1) := by decide +kernel
theorem dX3_init_39 : decode cX3_init 39 = .ok (.invokespecial 21, 3) := by decide +kernel
theorem dX3_init_42 : decode cX3_init 42 = .ok (.aastore, 1) := by decide +kernel
theorem dX3_init_43 : decode cX3_init 43 = .ok (.iinc 2 1, 3) := by decide +kernel
theorem dX3_init_46 : decode cX3_init 46 = .ok (.goto (-25), 3) := by decide +kernel
theorem dX3_init_49 : decode cX3_init 49 = .ok (.aload_n 0, 1) := by decide +kernel
theorem dX3_init_50 : decode cX3_init 50 = .ok (.sipush 1200, 3) := by decide +kernel
theorem dX3_init_53 : decode cX3_init 53 = .ok (.anewarray 15, 3) := by decide +kernel
theorem dX3_init_56 : decode cX3_init 56 = .ok (.putfield 22, 3) := by decide +kernel
theorem dX3_init_59 : decode cX3_init 59 = .ok (.aload_n 0, 1) := by decide +kernel
theorem dX3_init_60 : decode cX3_init 60 = .ok (.iconst 4, 1) := by decide +kernel
theorem dX3_init_61 : decode cX3_init 61 = .ok (.newarray .int, 2) := by decide +kernel
theorem dX3_init_63 : decode cX3_init 63 = .ok (.putfield 25, 3) := by decide +kernel
theorem dX3_init_66 : decode cX3_init 66 = .ok (.aload_n 0, 1) := by decide +kernel
theorem dX3_init_67 : decode cX3_init 67 = .ok (.bipush 36, 2) := by decide +kernel
theorem dX3_init_69 : decode cX3_init 69 = .ok (.newarray .int, 2) := by decide +kernel
theorem dX3_init_71 : decode cX3_init 71 = .ok (.putfield 29, 3) := by decide +kernel
theorem dX3_init_74 : decode cX3_init 74 = .ok (.aload_n 0, 1) := by decide +kernel
theorem dX3_init_75 : decode cX3_init 75 = .ok (.iconst 4, 1) := by decide +kernel
theorem dX3_init_76 : decode cX3_init 76 = .ok (.anewarray 15, 3) := by decide +kernel
theorem dX3_init_79 : decode cX3_init 79 = .ok (.putfield 32, 3) := by decide +kernel
theorem dX3_init_82 : decode cX3_init 82 = .ok (.iconst 0, 1) := by decide +kernel
theorem dX3_init_83 : decode cX3_init 83 = .ok (.istore_n 2, 1) := by decide +kernel
theorem dX3_init_84 : decode cX3_init 84 = .ok (.iload_n 2, 1) := by decide +kernel
theorem dX3_init_85 : decode cX3_init 85 = .ok (.aload_n 0, 1) := by decide +kernel
theorem dX3_init_86 : decode cX3_init 86 = .ok (.getfield 32, 3) := by decide +kernel
theorem dX3_init_89 : decode cX3_init 89 = .ok (.arraylength, 1) := by decide +kernel
theorem dX3_init_90 : decode cX3_init 90 = .ok (.if_icmp .ge 22, 3) := by decide +kernel
theorem dX3_init_93 : decode cX3_init 93 = .ok (.aload_n 0, 1) := by decide +kernel
theorem dX3_init_94 : decode cX3_init 94 = .ok (.getfield 32, 3) := by decide +kernel
theorem dX3_init_97 : decode cX3_init 97 = .ok (.iload_n 2, 1) := by decide +kernel
theorem dX3_init_98 : decode cX3_init 98 = .ok (.new 15, 3) := by decide +kernel
theorem dX3_init_101 : decode cX3_init 101 = .ok (.dup, 1) := by decide +kernel
theorem dX3_init_102 : decode cX3_init 102 = .ok (.invokespecial 21, 3) := by decide +kernel
theorem dX3_init_105 : decode cX3_init 105 = .ok (.aastore, 1) := by decide +kernel
theorem dX3_init_106 : decode cX3_init 106 = .ok (.iinc 2 1, 3) := by decide +kernel
theorem dX3_init_109 : decode cX3_init 109 = .ok (.goto (-25), 3) := by decide +kernel
theorem dX3_init_112 : decode cX3_init 112 = .ok (.aload_n 0, 1) := by decide +kernel
theorem dX3_init_113 : decode cX3_init 113 = .ok (.iconst 0, 1) := by decide +kernel
theorem dX3_init_114 : decode cX3_init 114 = .ok (.putfield 35, 3) := by decide +kernel
theorem dX3_init_117 : decode cX3_init 117 = .ok (.aload_n 0, 1) := by decide +kernel
theorem dX3_init_118 : decode cX3_init 118 = .ok (.iconst 0, 1) := by decide +kernel
theorem dX3_init_119 : decode cX3_init 119 = .ok (.putfield 39, 3) := by decide +kernel
theorem dX3_init_122 : decode cX3_init 122 = .ok (.aload_n 0, 1) := by decide +kernel
theorem dX3_init_123 : decode cX3_init 123 = .ok (.iconst 0, 1) := by decide +kernel
theorem dX3_init_124 : decode cX3_init 124 = .ok (.putfield 43, 3) := by decide +kernel
theorem dX3_init_127 : decode cX3_init 127 = .ok (.aload_n 0, 1) := by decide +kernel
theorem dX3_init_128 : decode cX3_init 128 = .ok (.iconst 0, 1) := by decide +kernel
theorem dX3_init_129 : decode cX3_init 129 = .ok (.putfield 46, 3) := by decide +kernel
theorem dX3_init_132 : decode cX3_init 132 = .ok (.return_, 1) := by decide +kernel
theorem dX3_upTo_0 : decode cX3_upTo 0 = .ok (.iload_n 1, 1) := by decide +kernel
theorem dX3_upTo_1 : decode cX3_upTo 1 = .ok (.ifCond .lt 18, 3) := by decide +kernel
theorem dX3_upTo_4 : decode cX3_upTo 4 = .ok (.iload_n 1, 1) := by decide +kernel
theorem dX3_upTo_5 : decode cX3_upTo 5 = .ok (.iconst 4, 1) := by decide +kernel
theorem dX3_upTo_6 : decode cX3_upTo 6 = .ok (.if_icmp .ge 13, 3) := by decide +kernel
theorem dX3_upTo_9 : decode cX3_upTo 9 = .ok (.iload_n 2, 1) := by decide +kernel
theorem dX3_upTo_10 : decode cX3_upTo 10 = .ok (.ifCond .lt 9, 3) := by decide +kernel
theorem dX3_upTo_13 : decode cX3_upTo 13 = .ok (.iload_n 2, 1) := by decide +kernel
theorem dX3_upTo_14 : decode cX3_upTo 14 = .ok (.bipush 8, 2) := by decide +kernel
theorem dX3_upTo_16 : decode cX3_upTo 16 = .ok (.if_icmp .le 5, 3) := by decide +kernel
theorem dX3_upTo_19 : decode cX3_upTo 19 = .ok (.iconst 0, 1) := by decide +kernel
theorem dX3_upTo_20 : decode cX3_upTo 20 = .ok (.ireturn, 1) := by decide +kernel
theorem dX3_upTo_21 : decode cX3_upTo 21 = .ok (.aload_n 0, 1) := by decide +kernel
theorem dX3_upTo_22 : decode cX3_upTo 22 = .ok (.getfield 29, 3) := by decide +kernel
theorem dX3_upTo_25 : decode cX3_upTo 25 = .ok (.iload_n 1, 1) := by decide +kernel
theorem dX3_upTo_26 : decode cX3_upTo 26 = .ok (.bipush 9, 2) := by decide +kernel
theorem dX3_upTo_28 : decode cX3_upTo 28 = .ok (.imul, 1) := by decide +kernel
theorem dX3_upTo_29 : decode cX3_upTo 29 = .ok (.iload_n 2, 1) := by decide +kernel
theorem dX3_upTo_30 : decode cX3_upTo 30 = .ok (.iadd, 1) := by decide +kernel
theorem dX3_upTo_31 : decode cX3_upTo 31 = .ok (.iaload, 1) := by decide +kernel
theorem dX3_upTo_32 : decode cX3_upTo 32 = .ok (.ireturn, 1) := by decide +kernel
theorem dX3_valueAt_0 : decode cX3_valueAt 0 = .ok (.iload_n 1, 1) := by decide +kernel
theorem dX3_valueAt_1 : decode cX3_valueAt 1 = .ok (.ifCond .lt 29, 3) := by decide +kernel
theorem dX3_valueAt_4 : decode cX3_valueAt 4 = .ok (.iload_n 1, 1) := by decide +kernel
theorem dX3_valueAt_5 : decode cX3_valueAt 5 = .ok (.iconst 4, 1) := by decide +kernel
theorem dX3_valueAt_6 : decode cX3_valueAt 6 = .ok (.if_icmp .ge 24, 3) := by decide +kernel
theorem dX3_valueAt_9 : decode cX3_valueAt 9 = .ok (.iload_n 2, 1) := by decide +kernel
theorem dX3_valueAt_10 : decode cX3_valueAt 10 = .ok (.ifCond .lt 20, 3) := by decide +kernel
theorem dX3_valueAt_13 : decode cX3_valueAt 13 = .ok (.iload_n 2, 1) := by decide +kernel
theorem dX3_valueAt_14 : decode cX3_valueAt 14 = .ok (.sipush 300, 3) := by decide +kernel
theorem dX3_valueAt_17 : decode cX3_valueAt 17 = .ok (.if_icmp .ge 13, 3) := by decide +kernel
theorem dX3_valueAt_20 : decode cX3_valueAt 20 = .ok (.iload_n 2, 1) := by decide +kernel
theorem dX3_valueAt_21 : decode cX3_valueAt 21 = .ok (.aload_n 0, 1) := by decide +kernel
theorem dX3_valueAt_22 : decode cX3_valueAt 22 = .ok (.getfield 25, 3) := by decide +kernel
theorem dX3_valueAt_25 : decode cX3_valueAt 25 = .ok (.iload_n 1, 1) := by decide +kernel
theorem dX3_valueAt_26 : decode cX3_valueAt 26 = .ok (.iaload, 1) := by decide +kernel
theorem dX3_valueAt_27 : decode cX3_valueAt 27 = .ok (.if_icmp .lt 5, 3) := by decide +kernel
theorem dX3_valueAt_30 : decode cX3_valueAt 30 = .ok (.aconst_null, 1) := by decide +kernel
theorem dX3_valueAt_31 : decode cX3_valueAt 31 = .ok (.areturn, 1) := by decide +kernel
theorem dX3_valueAt_32 : decode cX3_valueAt 32 = .ok (.aload_n 0, 1) := by decide +kernel
theorem dX3_valueAt_33 : decode cX3_valueAt 33 = .ok (.getfield 22, 3) := by decide +kernel
theorem dX3_valueAt_36 : decode cX3_valueAt 36 = .ok (.iload_n 1, 1) := by decide +kernel
theorem dX3_valueAt_37 : decode cX3_valueAt 37 = .ok (.sipush 300, 3) := by decide +kernel
theorem dX3_valueAt_40 : decode cX3_valueAt 40 = .ok (.imul, 1) := by decide +kernel
theorem dX3_valueAt_41 : decode cX3_valueAt 41 = .ok (.iload_n 2, 1) := by decide +kernel
theorem dX3_valueAt_42 : decode cX3_valueAt 42 = .ok (.iadd, 1) := by decide +kernel
theorem dX3_valueAt_43 : decode cX3_valueAt 43 = .ok (.aaload, 1) := by decide +kernel
theorem dX3_valueAt_44 : decode cX3_valueAt 44 = .ok (.areturn, 1) := by decide +kernel
theorem dX3_find_0 : decode cX3_find 0 = .ok (.aload_n 0, 1) := by decide +kernel
theorem dX3_find_1 : decode cX3_find 1 = .ok (.aload_n 1, 1) := by decide +kernel
theorem dX3_find_2 : decode cX3_find 2 = .ok (.getfield 49, 3) := by decide +kernel
theorem dX3_find_5 : decode cX3_find 5 = .ok (.aload_n 1, 1) := by decide +kernel
theorem dX3_find_6 : decode cX3_find 6 = .ok (.getfield 52, 3) := by decide +kernel
theorem dX3_find_9 : decode cX3_find 9 = .ok (.invokevirtual 55, 3) := by decide +kernel
theorem dX3_find_12 : decode cX3_find 12 = .ok (.istore_n 2, 1) := by decide +kernel
theorem dX3_find_13 : decode cX3_find 13 = .ok (.aload_n 0, 1) := by decide +kernel
theorem dX3_find_14 : decode cX3_find 14 = .ok (.aload_n 1, 1) := by decide +kernel
theorem dX3_find_15 : decode cX3_find 15 = .ok (.getfield 49, 3) := by decide +kernel
theorem dX3_find_18 : decode cX3_find 18 = .ok (.aload_n 1, 1) := by decide +kernel
theorem dX3_find_19 : decode cX3_find 19 = .ok (.getfield 52, 3) := by decide +kernel
theorem dX3_find_22 : decode cX3_find 22 = .ok (.iconst 1, 1) := by decide +kernel
theorem dX3_find_23 : decode cX3_find 23 = .ok (.isub, 1) := by decide +kernel
theorem dX3_find_24 : decode cX3_find 24 = .ok (.invokevirtual 55, 3) := by decide +kernel
theorem dX3_find_27 : decode cX3_find 27 = .ok (.istore_n 3, 1) := by decide +kernel
theorem dX3_find_28 : decode cX3_find 28 = .ok (.iload_n 3, 1) := by decide +kernel
theorem dX3_find_29 : decode cX3_find 29 = .ok (.iload_n 2, 1) := by decide +kernel
theorem dX3_find_30 : decode cX3_find 30 = .ok (.if_icmp .ge 32, 3) := by decide +kernel
theorem dX3_find_33 : decode cX3_find 33 = .ok (.aload_n 0, 1) := by decide +kernel
theorem dX3_find_34 : decode cX3_find 34 = .ok (.aload_n 1, 1) := by decide +kernel
theorem dX3_find_35 : decode cX3_find 35 = .ok (.getfield 49, 3) := by decide +kernel
theorem dX3_find_38 : decode cX3_find 38 = .ok (.iload_n 3, 1) := by decide +kernel
theorem dX3_find_39 : decode cX3_find 39 = .ok (.invokevirtual 59, 3) := by decide +kernel
theorem dX3_find_42 : decode cX3_find 42 = .ok (.astore 4, 2) := by decide +kernel
theorem dX3_find_44 : decode cX3_find 44 = .ok (.aload_n 1, 1) := by decide +kernel
theorem dX3_find_45 : decode cX3_find 45 = .ok (.aload 4, 2) := by decide +kernel
theorem dX3_find_47 : decode cX3_find 47 = .ok (.invokevirtual 63, 3) := by decide +kernel
theorem dX3_find_50 : decode cX3_find 50 = .ok (.ifCond .ne 6, 3) := by decide +kernel
theorem dX3_find_53 : decode cX3_find 53 = .ok (.aload 4, 2) := by decide +kernel
theorem dX3_find_55 : decode cX3_find 55 = .ok (.areturn, 1) := by decide +kernel
theorem dX3_find_56 : decode cX3_find 56 = .ok (.iinc 3 1, 3) := by decide +kernel
theorem dX3_find_59 : decode cX3_find 59 = .ok (.goto (-31), 3) := by decide +kernel
theorem dX3_find_62 : decode cX3_find 62 = .ok (.aconst_null, 1) := by decide +kernel
theorem dX3_find_63 : decode cX3_find 63 = .ok (.areturn, 1) := by decide +kernel
theorem dX3_refresh_0 : decode cX3_refresh 0 = .ok (.aload_n 0, 1) := by decide +kernel
theorem dX3_refresh_1 : decode cX3_refresh 1 = .ok (.getfield 46, 3) := by decide +kernel
theorem dX3_refresh_4 : decode cX3_refresh 4 = .ok (.ifCond .eq 4, 3) := by decide +kernel
theorem dX3_refresh_7 : decode cX3_refresh 7 = .ok (.return_, 1) := by decide +kernel
theorem dX3_refresh_8 : decode cX3_refresh 8 = .ok (.aload_n 0, 1) := by decide +kernel
theorem dX3_refresh_9 : decode cX3_refresh 9 = .ok (.iconst 0, 1) := by decide +kernel
theorem dX3_refresh_10 : decode cX3_refresh 10 = .ok (.putfield 35, 3) := by decide +kernel
theorem dX3_refresh_13 : decode cX3_refresh 13 = .ok (.aload_n 0, 1) := by decide +kernel
theorem dX3_refresh_14 : decode cX3_refresh 14 = .ok (.iconst 0, 1) := by decide +kernel
theorem dX3_refresh_15 : decode cX3_refresh 15 = .ok (.putfield 39, 3) := by decide +kernel
theorem dX3_refresh_18 : decode cX3_refresh 18 = .ok (.aload_n 0, 1) := by decide +kernel
theorem dX3_refresh_19 : decode cX3_refresh 19 = .ok (.iconst 0, 1) := by decide +kernel
theorem dX3_refresh_20 : decode cX3_refresh 20 = .ok (.putfield 43, 3) := by decide +kernel
theorem dX3_refresh_23 : decode cX3_refresh 23 = .ok (.iconst 0, 1) := by decide +kernel
theorem dX3_refresh_24 : decode cX3_refresh 24 = .ok (.istore_n 1, 1) := by decide +kernel
theorem dX3_refresh_25 : decode cX3_refresh 25 = .ok (.iload_n 1, 1) := by decide +kernel
theorem dX3_refresh_26 : decode cX3_refresh 26 = .ok (.iconst 4, 1) := by decide +kernel
theorem dX3_refresh_27 : decode cX3_refresh 27 = .ok (.if_icmp .ge 16, 3) := by decide +kernel
theorem dX3_refresh_30 : decode cX3_refresh 30 = .ok (.aload_n 0, 1) := by decide +kernel
theorem dX3_refresh_31 : decode cX3_refresh 31 = .ok (.getfield 25, 3) := by decide +kernel
theorem dX3_refresh_34 : decode cX3_refresh 34 = .ok (.iload_n 1, 1) := by decide +kernel
theorem dX3_refresh_35 : decode cX3_refresh 35 = .ok (.iconst 0, 1) := by decide +kernel
theorem dX3_refresh_36 : decode cX3_refresh 36 = .ok (.iastore, 1) := by decide +kernel
theorem dX3_refresh_37 : decode cX3_refresh 37 = .ok (.iinc 1 1, 3) := by decide +kernel
theorem dX3_refresh_40 : decode cX3_refresh 40 = .ok (.goto (-15), 3) := by decide +kernel
theorem dX3_refresh_43 : decode cX3_refresh 43 = .ok (.iconst 1, 1) := by decide +kernel
theorem dX3_refresh_44 : decode cX3_refresh 44 = .ok (.istore_n 1, 1) := by decide +kernel
theorem dX3_refresh_45 : decode cX3_refresh 45 = .ok (.iload_n 1, 1) := by decide +kernel
theorem dX3_refresh_46 : decode cX3_refresh 46 = .ok (.bipush 8, 2) := by decide +kernel
theorem dX3_refresh_48 : decode cX3_refresh 48 = .ok (.if_icmp .gt 26, 3) := by decide +kernel
theorem dX3_refresh_51 : decode cX3_refresh 51 = .ok (.aload_n 0, 1) := by decide +kernel
theorem dX3_refresh_52 : decode cX3_refresh 52 = .ok (.getfield 39, 3) := by decide +kernel
theorem dX3_refresh_55 : decode cX3_refresh 55 = .ok (.ifCond .ne 19, 3) := by decide +kernel
theorem dX3_refresh_58 : decode cX3_refresh 58 = .ok (.aload_n 0, 1) := by decide +kernel
theorem dX3_refresh_59 : decode cX3_refresh 59 = .ok (.iload_n 1, 1) := by decide +kernel
theorem dX3_refresh_60 : decode cX3_refresh 60 = .ok (.invokevirtual 67, 3) := by decide +kernel
theorem dX3_refresh_63 : decode cX3_refresh 63 = .ok (.aload_n 0, 1) := by decide +kernel
theorem dX3_refresh_64 : decode cX3_refresh 64 = .ok (.iload_n 1, 1) := by decide +kernel
theorem dX3_refresh_65 : decode cX3_refresh 65 = .ok (.invokevirtual 71, 3) := by decide +kernel
theorem dX3_refresh_68 : decode cX3_refresh 68 = .ok (.iinc 1 1, 3) := by decide +kernel
theorem dX3_refresh_71 : decode cX3_refresh 71 = .ok (.goto (-26), 3) := by decide +kernel
theorem dX3_refresh_74 : decode cX3_refresh 74 = .ok (.aload_n 0, 1) := by decide +kernel
theorem dX3_refresh_75 : decode cX3_refresh 75 = .ok (.iconst 1, 1) := by decide +kernel
theorem dX3_refresh_76 : decode cX3_refresh 76 = .ok (.putfield 46, 3) := by decide +kernel
theorem dX3_refresh_79 : decode cX3_refresh 79 = .ok (.return_, 1) := by decide +kernel
theorem dX3_makeSize_0 : decode cX3_makeSize 0 = .ok (.aload_n 0, 1) := by decide +kernel
theorem dX3_makeSize_1 : decode cX3_makeSize 1 = .ok (.getfield 32, 3) := by decide +kernel
theorem dX3_makeSize_4 : decode cX3_makeSize 4 = .ok (.iconst 0, 1) := by decide +kernel
theorem dX3_makeSize_5 : decode cX3_makeSize 5 = .ok (.aaload, 1) := by decide +kernel
theorem dX3_makeSize_6 : decode cX3_makeSize 6 = .ok (.astore_n 2, 1) := by decide +kernel
theorem dX3_makeSize_7 : decode cX3_makeSize 7 = .ok (.aload_n 2, 1) := by decide +kernel
theorem dX3_makeSize_8 : decode cX3_makeSize 8 = .ok (.ifnonnull 4, 3) := by decide +kernel
theorem dX3_makeSize_11 : decode cX3_makeSize 11 = .ok (.return_, 1) := by decide +kernel
theorem dX3_makeSize_12 : decode cX3_makeSize 12 = .ok (.iconst 0, 1) := by decide +kernel
theorem dX3_makeSize_13 : decode cX3_makeSize 13 = .ok (.istore_n 3, 1) := by decide +kernel
theorem dX3_makeSize_14 : decode cX3_makeSize 14 = .ok (.iload_n 3, 1) := by decide +kernel
theorem dX3_makeSize_15 : decode cX3_makeSize 15 = .ok (.aload_n 0, 1) := by decide +kernel
theorem dX3_makeSize_16 : decode cX3_makeSize 16 = .ok (.getfield 9, 3) := by decide +kernel
theorem dX3_makeSize_19 : decode cX3_makeSize 19 = .ok (.getfield 74, 3) := by decide +kernel
theorem dX3_makeSize_22 : decode cX3_makeSize 22 = .ok (.if_icmp .ge 37, 3) := by decide +kernel
theorem dX3_makeSize_25 : decode cX3_makeSize 25 = .ok (.aload_n 0, 1) := by decide +kernel
theorem dX3_makeSize_26 : decode cX3_makeSize 26 = .ok (.getfield 39, 3) := by decide +kernel
theorem dX3_makeSize_29 : decode cX3_makeSize 29 = .ok (.ifCond .ne 30, 3) := by decide +kernel
theorem dX3_makeSize_32 : decode cX3_makeSize 32 = .ok (.aload_n 2, 1) := by decide +kernel
theorem dX3_makeSize_33 : decode cX3_makeSize 33 = .ok (.aload_n 0, 1) := by decide +kernel
theorem dX3_makeSize_34 : decode cX3_makeSize 34 = .ok (.getfield 9, 3) := by decide +kernel
theorem dX3_makeSize_37 : decode cX3_makeSize 37 = .ok (.iload_n 3, 1) := by decide +kernel
theorem dX3_makeSize_38 : decode cX3_makeSize 38 = .ok (.invokevirtual 79, 3) := by decide +kernel
theorem dX3_makeSize_41 : decode cX3_makeSize 41 = .ok (.iload_n 3, 1) := by decide +kernel
theorem dX3_makeSize_42 : decode cX3_makeSize 42 = .ok (.invokevirtual 83, 3) := by decide +kernel
theorem dX3_makeSize_45 : decode cX3_makeSize 45 = .ok (.aload_n 0, 1) := by decide +kernel
theorem dX3_makeSize_46 : decode cX3_makeSize 46 = .ok (.aload_n 2, 1) := by decide +kernel
theorem dX3_makeSize_47 : decode cX3_makeSize 47 = .ok (.iload_n 1, 1) := by decide +kernel
theorem dX3_makeSize_48 : decode cX3_makeSize 48 = .ok (.iconst 1, 1) := by decide +kernel
theorem dX3_makeSize_49 : decode cX3_makeSize 49 = .ok (.isub, 1) := by decide +kernel
theorem dX3_makeSize_50 : decode cX3_makeSize 50 = .ok (.invokevirtual 87, 3) := by decide +kernel
theorem dX3_makeSize_53 : decode cX3_makeSize 53 = .ok (.iinc 3 1, 3) := by decide +kernel
theorem dX3_makeSize_56 : decode cX3_makeSize 56 = .ok (.goto (-42), 3) := by decide +kernel
theorem dX3_makeSize_59 : decode cX3_makeSize 59 = .ok (.return_, 1) := by decide +kernel
theorem dX3_closeSize_0 : decode cX3_closeSize 0 = .ok (.iconst 0, 1) := by decide +kernel
theorem dX3_closeSize_1 : decode cX3_closeSize 1 = .ok (.istore_n 2, 1) := by decide +kernel
theorem dX3_closeSize_2 : decode cX3_closeSize 2 = .ok (.iload_n 2, 1) := by decide +kernel
theorem dX3_closeSize_3 : decode cX3_closeSize 3 = .ok (.iconst 4, 1) := by decide +kernel
theorem dX3_closeSize_4 : decode cX3_closeSize 4 = .ok (.if_icmp .ge 50, 3) := by decide +kernel
theorem dX3_closeSize_7 : decode cX3_closeSize 7 = .ok (.aload_n 0, 1) := by decide +kernel
theorem dX3_closeSize_8 : decode cX3_closeSize 8 = .ok (.getfield 39, 3) := by decide +kernel
theorem dX3_closeSize_11 : decode cX3_closeSize 11 = .ok (.ifCond .eq 20, 3) := by decide +kernel
theorem dX3_closeSize_14 : decode cX3_closeSize 14 = .ok (.aload_n 0, 1) := by decide +kernel
theorem dX3_closeSize_15 : decode cX3_closeSize 15 = .ok (.getfield 25, 3) := by decide +kernel
theorem dX3_closeSize_18 : decode cX3_closeSize 18 = .ok (.iload_n 2, 1) := by decide +kernel
theorem dX3_closeSize_19 : decode cX3_closeSize 19 = .ok (.aload_n 0, 1) := by decide +kernel
theorem dX3_closeSize_20 : decode cX3_closeSize 20 = .ok (.iload_n 2, 1) := by decide +kernel
theorem dX3_closeSize_21 : decode cX3_closeSize 21 = .ok (.iload_n 1, 1) := by decide +kernel
theorem dX3_closeSize_22 : decode cX3_closeSize 22 = .ok (.iconst 1, 1) := by decide +kernel
theorem dX3_closeSize_23 : decode cX3_closeSize 23 = .ok (.isub, 1) := by decide +kernel
theorem dX3_closeSize_24 : decode cX3_closeSize 24 = .ok (.invokevirtual 55, 3) := by decide +kernel
theorem dX3_closeSize_27 : decode cX3_closeSize 27 = .ok (.iastore, 1) := by decide +kernel
theorem dX3_closeSize_28 : decode cX3_closeSize 28 = .ok (.goto 20, 3) := by decide +kernel
theorem dX3_closeSize_31 : decode cX3_closeSize 31 = .ok (.aload_n 0, 1) := by decide +kernel
theorem dX3_closeSize_32 : decode cX3_closeSize 32 = .ok (.getfield 29, 3) := by decide +kernel
theorem dX3_closeSize_35 : decode cX3_closeSize 35 = .ok (.iload_n 2, 1) := by decide +kernel
theorem dX3_closeSize_36 : decode cX3_closeSize 36 = .ok (.bipush 9, 2) := by decide +kernel
theorem dX3_closeSize_38 : decode cX3_closeSize 38 = .ok (.imul, 1) := by decide +kernel
theorem dX3_closeSize_39 : decode cX3_closeSize 39 = .ok (.iload_n 1, 1) := by decide +kernel
theorem dX3_closeSize_40 : decode cX3_closeSize 40 = .ok (.iadd, 1) := by decide +kernel
theorem dX3_closeSize_41 : decode cX3_closeSize 41 = .ok (.aload_n 0, 1) := by decide +kernel
theorem dX3_closeSize_42 : decode cX3_closeSize 42 = .ok (.getfield 25, 3) := by decide +kernel
theorem dX3_closeSize_45 : decode cX3_closeSize 45 = .ok (.iload_n 2, 1) := by decide +kernel
theorem dX3_closeSize_46 : decode cX3_closeSize 46 = .ok (.iaload, 1) := by decide +kernel
theorem dX3_closeSize_47 : decode cX3_closeSize 47 = .ok (.iastore, 1) := by decide +kernel
theorem dX3_closeSize_48 : decode cX3_closeSize 48 = .ok (.iinc 2 1, 3) := by decide +kernel
theorem dX3_closeSize_51 : decode cX3_closeSize 51 = .ok (.goto (-49), 3) := by decide +kernel
theorem dX3_closeSize_54 : decode cX3_closeSize 54 = .ok (.aload_n 0, 1) := by decide +kernel
theorem dX3_closeSize_55 : decode cX3_closeSize 55 = .ok (.getfield 39, 3) := by decide +kernel
theorem dX3_closeSize_58 : decode cX3_closeSize 58 = .ok (.ifCond .ne 8, 3) := by decide +kernel
theorem dX3_closeSize_61 : decode cX3_closeSize 61 = .ok (.aload_n 0, 1) := by decide +kernel
theorem dX3_closeSize_62 : decode cX3_closeSize 62 = .ok (.iload_n 1, 1) := by decide +kernel
theorem dX3_closeSize_63 : decode cX3_closeSize 63 = .ok (.putfield 43, 3) := by decide +kernel
theorem dX3_closeSize_66 : decode cX3_closeSize 66 = .ok (.return_, 1) := by decide +kernel
theorem dX3_extend_0 : decode cX3_extend 0 = .ok (.aload_n 0, 1) := by decide +kernel
theorem dX3_extend_1 : decode cX3_extend 1 = .ok (.getfield 9, 3) := by decide +kernel
theorem dX3_extend_4 : decode cX3_extend 4 = .ok (.aload_n 1, 1) := by decide +kernel
theorem dX3_extend_5 : decode cX3_extend 5 = .ok (.getfield 91, 3) := by decide +kernel
theorem dX3_extend_8 : decode cX3_extend 8 = .ok (.aload_n 1, 1) := by decide +kernel
theorem dX3_extend_9 : decode cX3_extend 9 = .ok (.getfield 94, 3) := by decide +kernel
theorem dX3_extend_12 : decode cX3_extend 12 = .ok (.invokevirtual 97, 3) := by decide +kernel
theorem dX3_extend_15 : decode cX3_extend 15 = .ok (.istore_n 3, 1) := by decide +kernel
theorem dX3_extend_16 : decode cX3_extend 16 = .ok (.aload_n 0, 1) := by decide +kernel
theorem dX3_extend_17 : decode cX3_extend 17 = .ok (.getfield 9, 3) := by decide +kernel
theorem dX3_extend_20 : decode cX3_extend 20 = .ok (.aload_n 1, 1) := by decide +kernel
theorem dX3_extend_21 : decode cX3_extend 21 = .ok (.getfield 91, 3) := by decide +kernel
theorem dX3_extend_24 : decode cX3_extend 24 = .ok (.aload_n 1, 1) := by decide +kernel
theorem dX3_extend_25 : decode cX3_extend 25 = .ok (.getfield 94, 3) := by decide +kernel
theorem dX3_extend_28 : decode cX3_extend 28 = .ok (.invokevirtual 100, 3) := by decide +kernel
theorem dX3_extend_31 : decode cX3_extend 31 = .ok (.istore 4, 2) := by decide +kernel
theorem dX3_extend_33 : decode cX3_extend 33 = .ok (.iload 4, 2) := by decide +kernel
theorem dX3_extend_35 : decode cX3_extend 35 = .ok (.ifCond .ne 15, 3) := by decide +kernel
theorem dX3_extend_38 : decode cX3_extend 38 = .ok (.iload_n 2, 1) := by decide +kernel
theorem dX3_extend_39 : decode cX3_extend 39 = .ok (.ifCond .eq 7, 3) := by decide +kernel
theorem dX3_extend_42 : decode cX3_extend 42 = .ok (.iconst 1, 1) := by decide +kernel
theorem dX3_extend_43 : decode cX3_extend 43 = .ok (.goto 18, 3) := by decide +kernel
theorem dX3_extend_46 : decode cX3_extend 46 = .ok (.iconst 0, 1) := by decide +kernel
theorem dX3_extend_47 : decode cX3_extend 47 = .ok (.goto 14, 3) := by decide +kernel
theorem dX3_extend_50 : decode cX3_extend 50 = .ok (.iload_n 2, 1) := by decide +kernel
theorem dX3_extend_51 : decode cX3_extend 51 = .ok (.iload 4, 2) := by decide +kernel
theorem dX3_extend_53 : decode cX3_extend 53 = .ok (.if_icmp .ge 7, 3) := by decide +kernel
theorem dX3_extend_56 : decode cX3_extend 56 = .ok (.iconst 1, 1) := by decide +kernel
theorem dX3_extend_57 : decode cX3_extend 57 = .ok (.goto 4, 3) := by decide +kernel
theorem dX3_extend_60 : decode cX3_extend 60 = .ok (.iconst 0, 1) := by decide +kernel
theorem dX3_extend_61 : decode cX3_extend 61 = .ok (.istore 5, 2) := by decide +kernel
theorem dX3_extend_63 : decode cX3_extend 63 = .ok (.iload 5, 2) := by decide +kernel
theorem dX3_extend_65 : decode cX3_extend 65 = .ok (.ifCond .ne 21, 3) := by decide +kernel
theorem dX3_extend_68 : decode cX3_extend 68 = .ok (.aload_n 0, 1) := by decide +kernel
theorem dX3_extend_69 : decode cX3_extend 69 = .ok (.aload_n 1, 1) := by decide +kernel
theorem dX3_extend_70 : decode cX3_extend 70 = .ok (.iload_n 3, 1) := by decide +kernel
theorem dX3_extend_71 : decode cX3_extend 71 = .ok (.iconst (-1), 1) := by decide +kernel
theorem dX3_extend_72 : decode cX3_extend 72 = .ok (.if_icmp .ne 7, 3) := by decide +kernel
theorem dX3_extend_75 : decode cX3_extend 75 = .ok (.iconst 1, 1) := by decide +kernel
theorem dX3_extend_76 : decode cX3_extend 76 = .ok (.goto 4, 3) := by decide +kernel
theorem dX3_extend_79 : decode cX3_extend 79 = .ok (.iconst 0, 1) := by decide +kernel
theorem dX3_extend_80 : decode cX3_extend 80 = .ok (.invokevirtual 103, 3) := by decide +kernel
theorem dX3_extend_83 : decode cX3_extend 83 = .ok (.ifCond .eq 4, 3) := by decide +kernel
theorem dX3_extend_86 : decode cX3_extend 86 = .ok (.return_, 1) := by decide +kernel
theorem dX3_extend_87 : decode cX3_extend 87 = .ok (.iload_n 3, 1) := by decide +kernel
theorem dX3_extend_88 : decode cX3_extend 88 = .ok (.iconst (-1), 1) := by decide +kernel
theorem dX3_extend_89 : decode cX3_extend 89 = .ok (.if_icmp .ne 11, 3) := by decide +kernel
theorem dX3_extend_92 : decode cX3_extend 92 = .ok (.aload_n 0, 1) := by decide +kernel
theorem dX3_extend_93 : decode cX3_extend 93 = .ok (.aload_n 1, 1) := by decide +kernel
theorem dX3_extend_94 : decode cX3_extend 94 = .ok (.invokevirtual 107, 3) := by decide +kernel
theorem dX3_extend_97 : decode cX3_extend 97 = .ok (.goto 27, 3) := by decide +kernel
theorem dX3_extend_100 : decode cX3_extend 100 = .ok (.iload_n 3, 1) := by decide +kernel
theorem dX3_extend_101 : decode cX3_extend 101 = .ok (.bipush 9, 2) := by decide +kernel
theorem dX3_extend_103 : decode cX3_extend 103 = .ok (.if_icmp .ne 12, 3) := by decide +kernel
theorem dX3_extend_106 : decode cX3_extend 106 = .ok (.aload_n 0, 1) := by decide +kernel
theorem dX3_extend_107 : decode cX3_extend 107 = .ok (.aload_n 1, 1) := by decide +kernel
theorem dX3_extend_108 : decode cX3_extend 108 = .ok (.iload_n 2, 1) := by decide +kernel
theorem dX3_extend_109 : decode cX3_extend 109 = .ok (.invokevirtual 111, 3) := by decide +kernel
theorem dX3_extend_112 : decode cX3_extend 112 = .ok (.goto 12, 3) := by decide +kernel
theorem dX3_extend_115 : decode cX3_extend 115 = .ok (.aload_n 0, 1) := by decide +kernel
theorem dX3_extend_116 : decode cX3_extend 116 = .ok (.aload_n 1, 1) := by decide +kernel
theorem dX3_extend_117 : decode cX3_extend 117 = .ok (.iload_n 3, 1) := by decide +kernel
theorem dX3_extend_118 : decode cX3_extend 118 = .ok (.iload_n 2, 1) := by decide +kernel
theorem dX3_extend_119 : decode cX3_extend 119 = .ok (.iload 4, 2) := by decide +kernel
theorem dX3_extend_121 : decode cX3_extend 121 = .ok (.invokevirtual 114, 3) := by decide +kernel
theorem dX3_extend_124 : decode cX3_extend 124 = .ok (.return_, 1) := by decide +kernel
theorem dX3_isHopeless_0 : decode cX3_isHopeless 0 = .ok (.aload_n 0, 1) := by decide +kernel
theorem dX3_isHopeless_1 : decode cX3_isHopeless 1 = .ok (.getfield 9, 3) := by decide +kernel
theorem dX3_isHopeless_4 : decode cX3_isHopeless 4 = .ok (.aload_n 1, 1) := by decide +kernel
theorem dX3_isHopeless_5 : decode cX3_isHopeless 5 = .ok (.getfield 91, 3) := by decide +kernel
theorem dX3_isHopeless_8 : decode cX3_isHopeless 8 = .ok (.invokevirtual 118, 3) := by decide +kernel
theorem dX3_isHopeless_11 : decode cX3_isHopeless 11 = .ok (.istore_n 3, 1) := by decide +kernel
theorem dX3_isHopeless_12 : decode cX3_isHopeless 12 = .ok (.iload_n 2, 1) := by decide +kernel
theorem dX3_isHopeless_13 : decode cX3_isHopeless 13 = .ok (.ifCond .ne 8, 3) := by decide +kernel
theorem dX3_isHopeless_16 : decode cX3_isHopeless 16 = .ok (.iload_n 3, 1) := by decide +kernel
theorem dX3_isHopeless_17 : decode cX3_isHopeless 17 = .ok (.iconst 5, 1) := by decide +kernel
theorem dX3_isHopeless_18 : decode cX3_isHopeless 18 = .ok (.if_icmp .eq 15, 3) := by decide +kernel
theorem dX3_isHopeless_21 : decode cX3_isHopeless 21 = .ok (.aload_n 1, 1) := by decide +kernel
theorem dX3_isHopeless_22 : decode cX3_isHopeless 22 = .ok (.iload_n 3, 1) := by decide +kernel
theorem dX3_isHopeless_23 : decode cX3_isHopeless 23 = .ok (.invokevirtual 121, 3) := by decide +kernel
theorem dX3_isHopeless_26 : decode cX3_isHopeless 26 = .ok (.ifCond .ne 7, 3) := by decide +kernel
theorem dX3_isHopeless_29 : decode cX3_isHopeless 29 = .ok (.iconst 1, 1) := by decide +kernel
theorem dX3_isHopeless_30 : decode cX3_isHopeless 30 = .ok (.goto 4, 3) := by decide +kernel
theorem dX3_isHopeless_33 : decode cX3_isHopeless 33 = .ok (.iconst 0, 1) := by decide +kernel
theorem dX3_isHopeless_34 : decode cX3_isHopeless 34 = .ok (.ireturn, 1) := by decide +kernel
theorem dX3_extendByNumbers_0 : decode cX3_extendByNumbers 0 = .ok (.aload_n 0, 1) := by decide +kernel
theorem dX3_extendByNumbers_1 : decode cX3_extendByNumbers 1 = .ok (.getfield 9, 3) := by decide +kernel
theorem dX3_extendByNumbers_4 : decode cX3_extendByNumbers 4 = .ok (.getfield 125, 3) := by decide +kernel
theorem dX3_extendByNumbers_7 : decode cX3_extendByNumbers 7 = .ok (.istore_n 3, 1) := by decide +kernel
theorem dX3_extendByNumbers_8 : decode cX3_extendByNumbers 8 = .ok (.iload_n 3, 1) := by decide +kernel
theorem dX3_extendByNumbers_9 : decode cX3_extendByNumbers 9 = .ok (.aload_n 0, 1) := by decide +kernel
theorem dX3_extendByNumbers_10 : decode cX3_extendByNumbers 10 = .ok (.getfield 9, 3) := by decide +kernel
theorem dX3_extendByNumbers_13 : decode cX3_extendByNumbers 13 = .ok (.getfield 128, 3) := by decide +kernel
theorem dX3_extendByNumbers_16 : decode cX3_extendByNumbers 16 = .ok (.if_icmp .gt 41, 3) := by decide +kernel
theorem dX3_extendByNumbers_19 : decode cX3_extendByNumbers 19 = .ok (.aload_n 0, 1) := by decide +kernel
theorem dX3_extendByNumbers_20 : decode cX3_extendByNumbers 20 = .ok (.getfield 39, 3) := by decide +kernel
theorem dX3_extendByNumbers_23 : decode cX3_extendByNumbers 23 = .ok (.ifCond .ne 34, 3) := by decide +kernel
theorem dX3_extendByNumbers_26 : decode cX3_extendByNumbers 26 = .ok (.aload_n 0, 1) := by decide +kernel
theorem dX3_extendByNumbers_27 : decode cX3_extendByNumbers 27 = .ok (.aload_n 1, 1) := by decide +kernel
theorem dX3_extendByNumbers_28 : decode cX3_extendByNumbers 28 = .ok (.invokevirtual 131, 3) := by decide +kernel
theorem dX3_extendByNumbers_31 : decode cX3_extendByNumbers 31 = .ok (.astore 4, 2) := by decide +kernel
theorem dX3_extendByNumbers_33 : decode cX3_extendByNumbers 33 = .ok (.aload 4, 2) := by decide +kernel
theorem dX3_extendByNumbers_35 : decode cX3_extendByNumbers 35 = .ok (.ifnull 16, 3) := by decide +kernel
theorem dX3_extendByNumbers_38 : decode cX3_extendByNumbers 38 = .ok (.aload 4, 2) := by decide +kernel
theorem dX3_extendByNumbers_40 : decode cX3_extendByNumbers 40 = .ok (.iload_n 3, 1) := by decide +kernel
theorem dX3_extendByNumbers_41 : decode cX3_extendByNumbers 41 = .ok (.invokevirtual 135, 3) := by decide +kernel
theorem dX3_extendByNumbers_44 : decode cX3_extendByNumbers 44 = .ok (.aload_n 0, 1) := by decide +kernel
theorem dX3_extendByNumbers_45 : decode cX3_extendByNumbers 45 = .ok (.aload 4, 2) := by decide +kernel
theorem dX3_extendByNumbers_47 : decode cX3_extendByNumbers 47 = .ok (.iload_n 2, 1) := by decide +kernel
theorem dX3_extendByNumbers_48 : decode cX3_extendByNumbers 48 = .ok (.invokevirtual 87, 3) := by decide +kernel
theorem dX3_extendByNumbers_51 : decode cX3_extendByNumbers 51 = .ok (.iinc 3 1, 3) := by decide +kernel
theorem dX3_extendByNumbers_54 : decode cX3_extendByNumbers 54 = .ok (.goto (-46), 3) := by decide +kernel
theorem dX3_extendByNumbers_57 : decode cX3_extendByNumbers 57 = .ok (.return_, 1) := by decide +kernel
theorem dX3_extendByParts_0 : decode cX3_extendByParts 0 = .ok (.aload_n 0, 1) := by decide +kernel
theorem dX3_extendByParts_1 : decode cX3_extendByParts 1 = .ok (.getfield 9, 3) := by decide +kernel
theorem dX3_extendByParts_4 : decode cX3_extendByParts 4 = .ok (.aload_n 1, 1) := by decide +kernel
theorem dX3_extendByParts_5 : decode cX3_extendByParts 5 = .ok (.getfield 91, 3) := by decide +kernel
theorem dX3_extendByParts_8 : decode cX3_extendByParts 8 = .ok (.invokevirtual 118, 3) := by decide +kernel
theorem dX3_extendByParts_11 : decode cX3_extendByParts 11 = .ok (.istore 5, 2) := by decide +kernel
theorem dX3_extendByParts_13 : decode cX3_extendByParts 13 = .ok (.iload 4, 2) := by decide +kernel
theorem dX3_extendByParts_15 : decode cX3_extendByParts 15 = .ok (.iconst 1, 1) := by decide +kernel
theorem dX3_extendByParts_16 : decode cX3_extendByParts 16 = .ok (.if_icmp .ne 7, 3) := by decide +kernel
theorem dX3_extendByParts_19 : decode cX3_extendByParts 19 = .ok (.iload_n 3, 1) := by decide +kernel
theorem dX3_extendByParts_20 : decode cX3_extendByParts 20 = .ok (.goto 4, 3) := by decide +kernel
theorem dX3_extendByParts_23 : decode cX3_extendByParts 23 = .ok (.iconst 1, 1) := by decide +kernel
theorem dX3_extendByParts_24 : decode cX3_extendByParts 24 = .ok (.istore 6, 2) := by decide +kernel
theorem dX3_extendByParts_26 : decode cX3_extendByParts 26 = .ok (.aload_n 0, 1) := by decide +kernel
theorem dX3_extendByParts_27 : decode cX3_extendByParts 27 = .ok (.iload_n 2, 1) := by decide +kernel
theorem dX3_extendByParts_28 : decode cX3_extendByParts 28 = .ok (.iload_n 3, 1) := by decide +kernel
theorem dX3_extendByParts_29 : decode cX3_extendByParts 29 = .ok (.iload 4, 2) := by decide +kernel
theorem dX3_extendByParts_31 : decode cX3_extendByParts 31 = .ok (.iconst 1, 1) := by decide +kernel
theorem dX3_extendByParts_32 : decode cX3_extendByParts 32 = .ok (.isub, 1) := by decide +kernel
theorem dX3_extendByParts_33 : decode cX3_extendByParts 33 = .ok (.isub, 1) := by decide +kernel
theorem dX3_extendByParts_34 : decode cX3_extendByParts 34 = .ok (.invokevirtual 55, 3) := by decide +kernel
theorem dX3_extendByParts_37 : decode cX3_extendByParts 37 = .ok (.istore 7, 2) := by decide +kernel
theorem dX3_extendByParts_39 : decode cX3_extendByParts 39 = .ok (.aload_n 0, 1) := by decide +kernel
theorem dX3_extendByParts_40 : decode cX3_extendByParts 40 = .ok (.iload_n 2, 1) := by decide +kernel
theorem dX3_extendByParts_41 : decode cX3_extendByParts 41 = .ok (.iload 6, 2) := by decide +kernel
theorem dX3_extendByParts_43 : decode cX3_extendByParts 43 = .ok (.iconst 1, 1) := by decide +kernel
theorem dX3_extendByParts_44 : decode cX3_extendByParts 44 = .ok (.isub, 1) := by decide +kernel
theorem dX3_extendByParts_45 : decode cX3_extendByParts 45 = .ok (.invokevirtual 55, 3) := by decide +kernel
theorem dX3_extendByParts_48 : decode cX3_extendByParts 48 = .ok (.istore 8, 2) := by decide +kernel
theorem dX3_extendByParts_50 : decode cX3_extendByParts 50 = .ok (.iload 8, 2) := by decide +kernel
theorem dX3_extendByParts_52 : decode cX3_extendByParts 52 = .ok (.iload 7, 2) := by decide +kernel
theorem dX3_extendByParts_54 : decode cX3_extendByParts 54 = .ok (.if_icmp .ge 76, 3) := by decide +kernel
theorem dX3_extendByParts_57 : decode cX3_extendByParts 57 = .ok (.aload_n 0, 1) := by decide +kernel
theorem dX3_extendByParts_58 : decode cX3_extendByParts 58 = .ok (.getfield 39, 3) := by decide +kernel
theorem dX3_extendByParts_61 : decode cX3_extendByParts 61 = .ok (.ifCond .ne 69, 3) := by decide +kernel
theorem dX3_extendByParts_64 : decode cX3_extendByParts 64 = .ok (.aload_n 0, 1) := by decide +kernel
theorem dX3_extendByParts_65 : decode cX3_extendByParts 65 = .ok (.iload_n 2, 1) := by decide +kernel
theorem dX3_extendByParts_66 : decode cX3_extendByParts 66 = .ok (.iload 8, 2) := by decide +kernel
theorem dX3_extendByParts_68 : decode cX3_extendByParts 68 = .ok (.invokevirtual 59, 3) := by decide +kernel
theorem dX3_extendByParts_71 : decode cX3_extendByParts 71 = .ok (.astore 9, 2) := by decide +kernel
theorem dX3_extendByParts_73 : decode cX3_extendByParts 73 = .ok (.aload 9, 2) := by decide +kernel
theorem dX3_extendByParts_75 : decode cX3_extendByParts 75 = .ok (.ifnull 49, 3) := by decide +kernel
theorem dX3_extendByParts_78 : decode cX3_extendByParts 78 = .ok (.aload_n 1, 1) := by decide +kernel
theorem dX3_extendByParts_79 : decode cX3_extendByParts 79 = .ok (.aload 9, 2) := by decide +kernel
theorem dX3_extendByParts_81 : decode cX3_extendByParts 81 = .ok (.iload 5, 2) := by decide +kernel
theorem dX3_extendByParts_83 : decode cX3_extendByParts 83 = .ok (.invokevirtual 138, 3) := by decide +kernel
theorem dX3_extendByParts_86 : decode cX3_extendByParts 86 = .ok (.ifCond .eq 6, 3) := by decide +kernel
theorem dX3_extendByParts_89 : decode cX3_extendByParts 89 = .ok (.goto 35, 3) := by decide +kernel
theorem dX3_extendByParts_92 : decode cX3_extendByParts 92 = .ok (.aload_n 0, 1) := by decide +kernel
theorem dX3_extendByParts_93 : decode cX3_extendByParts 93 = .ok (.aload_n 1, 1) := by decide +kernel
theorem dX3_extendByParts_94 : decode cX3_extendByParts 94 = .ok (.invokevirtual 131, 3) := by decide +kernel
theorem dX3_extendByParts_97 : decode cX3_extendByParts 97 = .ok (.astore 10, 2) := by decide +kernel
theorem dX3_extendByParts_99 : decode cX3_extendByParts 99 = .ok (.aload 10, 2) := by decide +kernel
theorem dX3_extendByParts_101 : decode cX3_extendByParts 101 = .ok (.ifnull 23, 3) := by decide +kernel
theorem dX3_extendByParts_104 : decode cX3_extendByParts 104 = .ok (.aload 10, 2) := by decide +kernel
theorem dX3_extendByParts_106 : decode cX3_extendByParts 106 = .ok (.aload 9, 2) := by decide +kernel
theorem dX3_extendByParts_108 : decode cX3_extendByParts 108 = .ok (.invokevirtual 142, 3) := by decide +kernel
theorem dX3_extendByParts_111 : decode cX3_extendByParts 111 = .ok (.aload_n 0, 1) := by decide +kernel
theorem dX3_extendByParts_112 : decode cX3_extendByParts 112 = .ok (.aload 10, 2) := by decide +kernel
theorem dX3_extendByParts_114 : decode cX3_extendByParts 114 = .ok (.iload_n 3, 1) := by decide +kernel
theorem dX3_extendByParts_115 : decode cX3_extendByParts 115 = .ok (.aload 9, 2) := by decide +kernel
theorem dX3_extendByParts_117 : decode cX3_extendByParts 117 = .ok (.getfield 52, 3) := by decide +kernel
theorem dX3_extendByParts_120 : decode cX3_extendByParts 120 = .ok (.isub, 1) := by decide +kernel
theorem dX3_extendByParts_121 : decode cX3_extendByParts 121 = .ok (.invokevirtual 87, 3) := by decide +kernel
theorem dX3_extendByParts_124 : decode cX3_extendByParts 124 = .ok (.iinc 8 1, 3) := by decide +kernel
theorem dX3_extendByParts_127 : decode cX3_extendByParts 127 = .ok (.goto (-77), 3) := by decide +kernel
theorem dX3_extendByParts_130 : decode cX3_extendByParts 130 = .ok (.return_, 1) := by decide +kernel
theorem dX3_copyToExtend_0 : decode cX3_copyToExtend 0 = .ok (.aload_n 1, 1) := by decide +kernel
theorem dX3_copyToExtend_1 : decode cX3_copyToExtend 1 = .ok (.getfield 94, 3) := by decide +kernel
theorem dX3_copyToExtend_4 : decode cX3_copyToExtend 4 = .ok (.iconst 1, 1) := by decide +kernel
theorem dX3_copyToExtend_5 : decode cX3_copyToExtend 5 = .ok (.iadd, 1) := by decide +kernel
theorem dX3_copyToExtend_6 : decode cX3_copyToExtend 6 = .ok (.istore_n 2, 1) := by decide +kernel
theorem dX3_copyToExtend_7 : decode cX3_copyToExtend 7 = .ok (.iload_n 2, 1) := by decide +kernel
theorem dX3_copyToExtend_8 : decode cX3_copyToExtend 8 = .ok (.iconst 1, 1) := by decide +kernel
theorem dX3_copyToExtend_9 : decode cX3_copyToExtend 9 = .ok (.if_icmp .lt 21, 3) := by decide +kernel
theorem dX3_copyToExtend_12 : decode cX3_copyToExtend 12 = .ok (.iload_n 2, 1) := by decide +kernel
theorem dX3_copyToExtend_13 : decode cX3_copyToExtend 13 = .ok (.aload_n 0, 1) := by decide +kernel
theorem dX3_copyToExtend_14 : decode cX3_copyToExtend 14 = .ok (.getfield 32, 3) := by decide +kernel
theorem dX3_copyToExtend_17 : decode cX3_copyToExtend 17 = .ok (.arraylength, 1) := by decide +kernel
theorem dX3_copyToExtend_18 : decode cX3_copyToExtend 18 = .ok (.if_icmp .ge 12, 3) := by decide +kernel
theorem dX3_copyToExtend_21 : decode cX3_copyToExtend 21 = .ok (.aload_n 0, 1) := by decide +kernel
theorem dX3_copyToExtend_22 : decode cX3_copyToExtend 22 = .ok (.getfield 32, 3) := by decide +kernel
theorem dX3_copyToExtend_25 : decode cX3_copyToExtend 25 = .ok (.iload_n 2, 1) := by decide +kernel
theorem dX3_copyToExtend_26 : decode cX3_copyToExtend 26 = .ok (.aaload, 1) := by decide +kernel
theorem dX3_copyToExtend_27 : decode cX3_copyToExtend 27 = .ok (.ifnonnull 5, 3) := by decide +kernel
theorem dX3_copyToExtend_30 : decode cX3_copyToExtend 30 = .ok (.aconst_null, 1) := by decide +kernel
theorem dX3_copyToExtend_31 : decode cX3_copyToExtend 31 = .ok (.areturn, 1) := by decide +kernel
theorem dX3_copyToExtend_32 : decode cX3_copyToExtend 32 = .ok (.aload_n 0, 1) := by decide +kernel
theorem dX3_copyToExtend_33 : decode cX3_copyToExtend 33 = .ok (.getfield 32, 3) := by decide +kernel
theorem dX3_copyToExtend_36 : decode cX3_copyToExtend 36 = .ok (.iload_n 2, 1) := by decide +kernel
theorem dX3_copyToExtend_37 : decode cX3_copyToExtend 37 = .ok (.aaload, 1) := by decide +kernel
theorem dX3_copyToExtend_38 : decode cX3_copyToExtend 38 = .ok (.aload_n 1, 1) := by decide +kernel
theorem dX3_copyToExtend_39 : decode cX3_copyToExtend 39 = .ok (.invokevirtual 145, 3) := by decide +kernel
theorem dX3_copyToExtend_42 : decode cX3_copyToExtend 42 = .ok (.aload_n 0, 1) := by decide +kernel
theorem dX3_copyToExtend_43 : decode cX3_copyToExtend 43 = .ok (.getfield 32, 3) := by decide +kernel
theorem dX3_copyToExtend_46 : decode cX3_copyToExtend 46 = .ok (.iload_n 2, 1) := by decide +kernel
theorem dX3_copyToExtend_47 : decode cX3_copyToExtend 47 = .ok (.aaload, 1) := by decide +kernel
theorem dX3_copyToExtend_48 : decode cX3_copyToExtend 48 = .ok (.areturn, 1) := by decide +kernel
theorem dX3_keep_0 : decode cX3_keep 0 = .ok (.aload_n 1, 1) := by decide +kernel
theorem dX3_keep_1 : decode cX3_keep 1 = .ok (.getfield 49, 3) := by decide +kernel
theorem dX3_keep_4 : decode cX3_keep 4 = .ok (.istore_n 2, 1) := by decide +kernel
theorem dX3_keep_5 : decode cX3_keep 5 = .ok (.aload_n 0, 1) := by decide +kernel
theorem dX3_keep_6 : decode cX3_keep 6 = .ok (.getfield 35, 3) := by decide +kernel
theorem dX3_keep_9 : decode cX3_keep 9 = .ok (.ifCond .lt 25, 3) := by decide +kernel
theorem dX3_keep_12 : decode cX3_keep 12 = .ok (.aload_n 0, 1) := by decide +kernel
theorem dX3_keep_13 : decode cX3_keep 13 = .ok (.getfield 35, 3) := by decide +kernel
theorem dX3_keep_16 : decode cX3_keep 16 = .ok (.sipush 300, 3) := by decide +kernel
theorem dX3_keep_19 : decode cX3_keep 19 = .ok (.if_icmp .ge 15, 3) := by decide +kernel
theorem dX3_keep_22 : decode cX3_keep 22 = .ok (.aload_n 0, 1) := by decide +kernel
theorem dX3_keep_23 : decode cX3_keep 23 = .ok (.getfield 17, 3) := by decide +kernel
theorem dX3_keep_26 : decode cX3_keep 26 = .ok (.aload_n 0, 1) := by decide +kernel
theorem dX3_keep_27 : decode cX3_keep 27 = .ok (.getfield 35, 3) := by decide +kernel
theorem dX3_keep_30 : decode cX3_keep 30 = .ok (.aaload, 1) := by decide +kernel
theorem dX3_keep_31 : decode cX3_keep 31 = .ok (.ifnonnull 9, 3) := by decide +kernel
theorem dX3_keep_34 : decode cX3_keep 34 = .ok (.aload_n 0, 1) := by decide +kernel
theorem dX3_keep_35 : decode cX3_keep 35 = .ok (.iconst 1, 1) := by decide +kernel
theorem dX3_keep_36 : decode cX3_keep 36 = .ok (.putfield 39, 3) := by decide +kernel
theorem dX3_keep_39 : decode cX3_keep 39 = .ok (.return_, 1) := by decide +kernel
theorem dX3_keep_40 : decode cX3_keep 40 = .ok (.iload_n 2, 1) := by decide +kernel
theorem dX3_keep_41 : decode cX3_keep 41 = .ok (.ifCond .lt 29, 3) := by decide +kernel
theorem dX3_keep_44 : decode cX3_keep 44 = .ok (.iload_n 2, 1) := by decide +kernel
theorem dX3_keep_45 : decode cX3_keep 45 = .ok (.iconst 4, 1) := by decide +kernel
theorem dX3_keep_46 : decode cX3_keep 46 = .ok (.if_icmp .ge 24, 3) := by decide +kernel
theorem dX3_keep_49 : decode cX3_keep 49 = .ok (.aload_n 0, 1) := by decide +kernel
theorem dX3_keep_50 : decode cX3_keep 50 = .ok (.getfield 25, 3) := by decide +kernel
theorem dX3_keep_53 : decode cX3_keep 53 = .ok (.iload_n 2, 1) := by decide +kernel
theorem dX3_keep_54 : decode cX3_keep 54 = .ok (.iaload, 1) := by decide +kernel
theorem dX3_keep_55 : decode cX3_keep 55 = .ok (.ifCond .lt 15, 3) := by decide +kernel
theorem dX3_keep_58 : decode cX3_keep 58 = .ok (.aload_n 0, 1) := by decide +kernel
theorem dX3_keep_59 : decode cX3_keep 59 = .ok (.getfield 25, 3) := by decide +kernel
theorem dX3_keep_62 : decode cX3_keep 62 = .ok (.iload_n 2, 1) := by decide +kernel
theorem dX3_keep_63 : decode cX3_keep 63 = .ok (.iaload, 1) := by decide +kernel
theorem dX3_keep_64 : decode cX3_keep 64 = .ok (.sipush 300, 3) := by decide +kernel
theorem dX3_keep_67 : decode cX3_keep 67 = .ok (.if_icmp .lt 4, 3) := by decide +kernel
theorem dX3_keep_70 : decode cX3_keep 70 = .ok (.return_, 1) := by decide +kernel
theorem dX3_keep_71 : decode cX3_keep 71 = .ok (.aload_n 0, 1) := by decide +kernel
theorem dX3_keep_72 : decode cX3_keep 72 = .ok (.getfield 17, 3) := by decide +kernel
theorem dX3_keep_75 : decode cX3_keep 75 = .ok (.aload_n 0, 1) := by decide +kernel
theorem dX3_keep_76 : decode cX3_keep 76 = .ok (.getfield 35, 3) := by decide +kernel
theorem dX3_keep_79 : decode cX3_keep 79 = .ok (.aaload, 1) := by decide +kernel
theorem dX3_keep_80 : decode cX3_keep 80 = .ok (.astore_n 3, 1) := by decide +kernel
theorem dX3_keep_81 : decode cX3_keep 81 = .ok (.aload_n 3, 1) := by decide +kernel
theorem dX3_keep_82 : decode cX3_keep 82 = .ok (.aload_n 1, 1) := by decide +kernel
theorem dX3_keep_83 : decode cX3_keep 83 = .ok (.invokevirtual 145, 3) := by decide +kernel
theorem dX3_keep_86 : decode cX3_keep 86 = .ok (.aload_n 3, 1) := by decide +kernel
theorem dX3_keep_87 : decode cX3_keep 87 = .ok (.aload_n 0, 1) := by decide +kernel
theorem dX3_keep_88 : decode cX3_keep 88 = .ok (.getfield 25, 3) := by decide +kernel
theorem dX3_keep_91 : decode cX3_keep 91 = .ok (.iload_n 2, 1) := by decide +kernel
theorem dX3_keep_92 : decode cX3_keep 92 = .ok (.iaload, 1) := by decide +kernel
theorem dX3_keep_93 : decode cX3_keep 93 = .ok (.putfield 148, 3) := by decide +kernel
theorem dX3_keep_96 : decode cX3_keep 96 = .ok (.aload_n 0, 1) := by decide +kernel
theorem dX3_keep_97 : decode cX3_keep 97 = .ok (.getfield 22, 3) := by decide +kernel
theorem dX3_keep_100 : decode cX3_keep 100 = .ok (.iload_n 2, 1) := by decide +kernel
theorem dX3_keep_101 : decode cX3_keep 101 = .ok (.sipush 300, 3) := by decide +kernel
theorem dX3_keep_104 : decode cX3_keep 104 = .ok (.imul, 1) := by decide +kernel
theorem dX3_keep_105 : decode cX3_keep 105 = .ok (.aload_n 0, 1) := by decide +kernel
theorem dX3_keep_106 : decode cX3_keep 106 = .ok (.getfield 25, 3) := by decide +kernel
theorem dX3_keep_109 : decode cX3_keep 109 = .ok (.iload_n 2, 1) := by decide +kernel
theorem dX3_keep_110 : decode cX3_keep 110 = .ok (.iaload, 1) := by decide +kernel
theorem dX3_keep_111 : decode cX3_keep 111 = .ok (.iadd, 1) := by decide +kernel
theorem dX3_keep_112 : decode cX3_keep 112 = .ok (.aload_n 3, 1) := by decide +kernel
theorem dX3_keep_113 : decode cX3_keep 113 = .ok (.aastore, 1) := by decide +kernel
theorem dX3_keep_114 : decode cX3_keep 114 = .ok (.aload_n 0, 1) := by decide +kernel
theorem dX3_keep_115 : decode cX3_keep 115 = .ok (.getfield 25, 3) := by decide +kernel
theorem dX3_keep_118 : decode cX3_keep 118 = .ok (.iload_n 2, 1) := by decide +kernel
theorem dX3_keep_119 : decode cX3_keep 119 = .ok (.dup2, 1) := by decide +kernel
theorem dX3_keep_120 : decode cX3_keep 120 = .ok (.iaload, 1) := by decide +kernel
theorem dX3_keep_121 : decode cX3_keep 121 = .ok (.iconst 1, 1) := by decide +kernel
theorem dX3_keep_122 : decode cX3_keep 122 = .ok (.iadd, 1) := by decide +kernel
theorem dX3_keep_123 : decode cX3_keep 123 = .ok (.iastore, 1) := by decide +kernel
theorem dX3_keep_124 : decode cX3_keep 124 = .ok (.aload_n 0, 1) := by decide +kernel
theorem dX3_keep_125 : decode cX3_keep 125 = .ok (.dup, 1) := by decide +kernel
theorem dX3_keep_126 : decode cX3_keep 126 = .ok (.getfield 35, 3) := by decide +kernel
theorem dX3_keep_129 : decode cX3_keep 129 = .ok (.iconst 1, 1) := by decide +kernel
theorem dX3_keep_130 : decode cX3_keep 130 = .ok (.iadd, 1) := by decide +kernel
theorem dX3_keep_131 : decode cX3_keep 131 = .ok (.putfield 35, 3) := by decide +kernel
theorem dX3_keep_134 : decode cX3_keep 134 = .ok (.return_, 1) := by decide +kernel
theorem dX4_init_0 : decode cX4_init 0 = .ok (.aload_n 0, 1) := by decide +kernel
theorem dX4_init_1 : decode cX4_init 1 = .ok (.invokespecial 3, 3) := by decide +kernel
theorem dX4_init_4 : decode cX4_init 4 = .ok (.aload_n 0, 1) := by decide +kernel
theorem dX4_init_5 : decode cX4_init 5 = .ok (.aload_n 1, 1) := by decide +kernel
theorem dX4_init_6 : decode cX4_init 6 = .ok (.putfield 9, 3) := by decide +kernel
theorem dX4_init_9 : decode cX4_init 9 = .ok (.aload_n 0, 1) := by decide +kernel
theorem dX4_init_10 : decode cX4_init 10 = .ok (.bipush 40, 2) := by decide +kernel
theorem dX4_init_12 : decode cX4_init 12 = .ok (.newarray .int, 2) := by decide +kernel
theorem dX4_init_14 : decode cX4_init 14 = .ok (.putfield 15, 3) := by decide +kernel
theorem dX4_init_17 : decode cX4_init 17 = .ok (.aload_n 0, 1) := by decide +kernel
theorem dX4_init_18 : decode cX4_init 18 = .ok (.bipush 8, 2) := by decide +kernel
theorem dX4_init_20 : decode cX4_init 20 = .ok (.anewarray 19, 3) := by decide +kernel
theorem dX4_init_23 : decode cX4_init 23 = .ok (.putfield 21, 3) := by decide +kernel
theorem dX4_init_26 : decode cX4_init 26 = .ok (.iconst 0, 1) := by decide +kernel
theorem dX4_init_27 : decode cX4_init 27 = .ok (.istore_n 2, 1) := by decide +kernel
theorem dX4_init_28 : decode cX4_init 28 = .ok (.iload_n 2, 1) := by decide +kernel
theorem dX4_init_29 : decode cX4_init 29 = .ok (.aload_n 0, 1) := by decide +kernel
theorem dX4_init_30 : decode cX4_init 30 = .ok (.getfield 21, 3) := by decide +kernel
theorem dX4_init_33 : decode cX4_init 33 = .ok (.arraylength, 1) := by decide +kernel
theorem dX4_init_34 : decode cX4_init 34 = .ok (.if_icmp .ge 22, 3) := by decide +kernel
theorem dX4_init_37 : decode cX4_init 37 = .ok (.aload_n 0, 1) := by decide +kernel
theorem dX4_init_38 : decode cX4_init 38 = .ok (.getfield 21, 3) := by decide +kernel
theorem dX4_init_41 : decode cX4_init 41 = .ok (.iload_n 2, 1) := by decide +kernel
theorem dX4_init_42 : decode cX4_init 42 = .ok (.new 19, 3) := by decide +kernel
theorem dX4_init_45 : decode cX4_init 45 = .ok (.dup, 1) := by decide +kernel
theorem dX4_init_46 : decode cX4_init 46 = .ok (.invokespecial 25, 3) := by decide +kernel
theorem dX4_init_49 : decode cX4_init 49 = .ok (.aastore, 1) := by decide +kernel
theorem dX4_init_50 : decode cX4_init 50 = .ok (.iinc 2 1, 3) := by decide +kernel
theorem dX4_init_53 : decode cX4_init 53 = .ok (.goto (-25), 3) := by decide +kernel
theorem dX4_init_56 : decode cX4_init 56 = .ok (.aload_n 0, 1) := by decide +kernel
theorem dX4_init_57 : decode cX4_init 57 = .ok (.iconst 0, 1) := by decide +kernel
theorem dX4_init_58 : decode cX4_init 58 = .ok (.putfield 26, 3) := by decide +kernel
theorem dX4_init_61 : decode cX4_init 61 = .ok (.aload_n 0, 1) := by decide +kernel
theorem dX4_init_62 : decode cX4_init 62 = .ok (.iconst 0, 1) := by decide +kernel
theorem dX4_init_63 : decode cX4_init 63 = .ok (.putfield 30, 3) := by decide +kernel
theorem dX4_init_66 : decode cX4_init 66 = .ok (.aload_n 0, 1) := by decide +kernel
theorem dX4_init_67 : decode cX4_init 67 = .ok (.iconst 0, 1) := by decide +kernel
theorem dX4_init_68 : decode cX4_init 68 = .ok (.putfield 33, 3) := by decide +kernel
theorem dX4_init_71 : decode cX4_init 71 = .ok (.return_, 1) := by decide +kernel
theorem dX4_append_0 : decode cX4_append 0 = .ok (.aload_n 0, 1) := by decide +kernel
theorem dX4_append_1 : decode cX4_append 1 = .ok (.getfield 33, 3) := by decide +kernel
theorem dX4_append_4 : decode cX4_append 4 = .ok (.ifCond .lt 32, 3) := by decide +kernel
theorem dX4_append_7 : decode cX4_append 7 = .ok (.aload_n 0, 1) := by decide +kernel
theorem dX4_append_8 : decode cX4_append 8 = .ok (.getfield 33, 3) := by decide +kernel
theorem dX4_append_11 : decode cX4_append 11 = .ok (.bipush 40, 2) := by decide +kernel
theorem dX4_append_13 : decode cX4_append 13 = .ok (.if_icmp .ge 23, 3) := by decide +kernel
theorem dX4_append_16 : decode cX4_append 16 = .ok (.aload_n 0, 1) := by decide +kernel
theorem dX4_append_17 : decode cX4_append 17 = .ok (.getfield 15, 3) := by decide +kernel
theorem dX4_append_20 : decode cX4_append 20 = .ok (.aload_n 0, 1) := by decide +kernel
theorem dX4_append_21 : decode cX4_append 21 = .ok (.getfield 33, 3) := by decide +kernel
theorem dX4_append_24 : decode cX4_append 24 = .ok (.iload_n 1, 1) := by decide +kernel
theorem dX4_append_25 : decode cX4_append 25 = .ok (.iastore, 1) := by decide +kernel
theorem dX4_append_26 : decode cX4_append 26 = .ok (.aload_n 0, 1) := by decide +kernel
theorem dX4_append_27 : decode cX4_append 27 = .ok (.dup, 1) := by decide +kernel
theorem dX4_append_28 : decode cX4_append 28 = .ok (.getfield 33, 3) := by decide +kernel
theorem dX4_append_31 : decode cX4_append 31 = .ok (.iconst 1, 1) := by decide +kernel
theorem dX4_append_32 : decode cX4_append 32 = .ok (.iadd, 1) := by decide +kernel
theorem dX4_append_33 : decode cX4_append 33 = .ok (.putfield 33, 3) := by decide +kernel
theorem dX4_append_36 : decode cX4_append 36 = .ok (.return_, 1) := by decide +kernel
theorem dX4_parse_0 : decode cX4_parse 0 = .ok (.aload_n 0, 1) := by decide +kernel
theorem dX4_parse_1 : decode cX4_parse 1 = .ok (.iconst 0, 1) := by decide +kernel
theorem dX4_parse_2 : decode cX4_parse 2 = .ok (.putfield 26, 3) := by decide +kernel
theorem dX4_parse_5 : decode cX4_parse 5 = .ok (.aload_n 0, 1) := by decide +kernel
theorem dX4_parse_6 : decode cX4_parse 6 = .ok (.iconst 0, 1) := by decide +kernel
theorem dX4_parse_7 : decode cX4_parse 7 = .ok (.putfield 30, 3) := by decide +kernel
theorem dX4_parse_10 : decode cX4_parse 10 = .ok (.aload_n 0, 1) := by decide +kernel
theorem dX4_parse_11 : decode cX4_parse 11 = .ok (.iload_n 1, 1) := by decide +kernel
theorem dX4_parse_12 : decode cX4_parse 12 = .ok (.invokevirtual 36, 3) := by decide +kernel
theorem dX4_parse_15 : decode cX4_parse 15 = .ok (.astore_n 2, 1) := by decide +kernel
theorem dX4_parse_16 : decode cX4_parse 16 = .ok (.aload_n 0, 1) := by decide +kernel
theorem dX4_parse_17 : decode cX4_parse 17 = .ok (.getfield 30, 3) := by decide +kernel
theorem dX4_parse_20 : decode cX4_parse 20 = .ok (.aload_n 0, 1) := by decide +kernel
theorem dX4_parse_21 : decode cX4_parse 21 = .ok (.getfield 33, 3) := by decide +kernel
theorem dX4_parse_24 : decode cX4_parse 24 = .ok (.if_icmp .ne 7, 3) := by decide +kernel
theorem dX4_parse_27 : decode cX4_parse 27 = .ok (.aload_n 2, 1) := by decide +kernel
theorem dX4_parse_28 : decode cX4_parse 28 = .ok (.goto 4, 3) := by decide +kernel
theorem dX4_parse_31 : decode cX4_parse 31 = .ok (.aconst_null, 1) := by decide +kernel
theorem dX4_parse_32 : decode cX4_parse 32 = .ok (.areturn, 1) := by decide +kernel
theorem dX4_parseValue_0 : decode cX4_parseValue 0 = .ok (.aload_n 0, 1) := by decide +kernel
theorem dX4_parseValue_1 : decode cX4_parseValue 1 = .ok (.invokevirtual 40, 3) := by decide +kernel
theorem dX4_parseValue_4 : decode cX4_parseValue 4 = .ok (.bipush 100, 2) := by decide +kernel
theorem dX4_parseValue_6 : decode cX4_parseValue 6 = .ok (.isub, 1) := by decide +kernel
theorem dX4_parseValue_7 : decode cX4_parseValue 7 = .ok (.istore_n 2, 1) := by decide +kernel
theorem dX4_parseValue_8 : decode cX4_parseValue 8 = .ok (.aload_n 0, 1) := by decide +kernel
theorem dX4_parseValue_9 : decode cX4_parseValue 9 = .ok (.getfield 9, 3) := by decide +kernel
theorem dX4_parseValue_12 : decode cX4_parseValue 12 = .ok (.iload_n 2, 1) := by decide +kernel
theorem dX4_parseValue_13 : decode cX4_parseValue 13 = .ok (.invokevirtual 44, 3) := by decide +kernel
theorem dX4_parseValue_16 : decode cX4_parseValue 16 = .ok (.ifCond .eq 15, 3) := by decide +kernel
theorem dX4_parseValue_19 : decode cX4_parseValue 19 = .ok (.aload_n 0, 1) := by decide +kernel
theorem dX4_parseValue_20 : decode cX4_parseValue 20 = .ok (.getfield 9, 3) := by decide +kernel
theorem dX4_parseValue_23 : decode cX4_parseValue 23 = .ok (.iload_n 2, 1) := by decide +kernel
theorem dX4_parseValue_24 : decode cX4_parseValue 24 = .ok (.invokevirtual 50, 3) := by decide +kernel
theorem dX4_parseValue_27 : decode cX4_parseValue 27 = .ok (.iload_n 1, 1) := by decide +kernel
theorem dX4_parseValue_28 : decode cX4_parseValue 28 = .ok (.if_icmp .eq 5, 3) := by decide +kernel
theorem dX4_parseValue_31 : decode cX4_parseValue 31 = .ok (.aconst_null, 1) := by decide +kernel
theorem dX4_parseValue_32 : decode cX4_parseValue 32 = .ok (.areturn, 1) := by decide +kernel
theorem dX4_parseValue_33 : decode cX4_parseValue 33 = .ok (.aload_n 0, 1) := by decide +kernel
theorem dX4_parseValue_34 : decode cX4_parseValue 34 = .ok (.getfield 26, 3) := by decide +kernel
theorem dX4_parseValue_37 : decode cX4_parseValue 37 = .ok (.ifCond .lt 24, 3) := by decide +kernel
theorem dX4_parseValue_40 : decode cX4_parseValue 40 = .ok (.aload_n 0, 1) := by decide +kernel
theorem dX4_parseValue_41 : decode cX4_parseValue 41 = .ok (.getfield 26, 3) := by decide +kernel
theorem dX4_parseValue_44 : decode cX4_parseValue 44 = .ok (.bipush 8, 2) := by decide +kernel
theorem dX4_parseValue_46 : decode cX4_parseValue 46 = .ok (.if_icmp .ge 15, 3) := by decide +kernel
theorem dX4_parseValue_49 : decode cX4_parseValue 49 = .ok (.aload_n 0, 1) := by decide +kernel
theorem dX4_parseValue_50 : decode cX4_parseValue 50 = .ok (.getfield 21, 3) := by decide +kernel
theorem dX4_parseValue_53 : decode cX4_parseValue 53 = .ok (.aload_n 0, 1) := by decide +kernel
theorem dX4_parseValue_54 : decode cX4_parseValue 54 = .ok (.getfield 26, 3) := by decide +kernel
theorem dX4_parseValue_57 : decode cX4_parseValue 57 = .ok (.aaload, 1) := by decide +kernel
theorem dX4_parseValue_58 : decode cX4_parseValue 58 = .ok (.ifnonnull 5, 3) := by decide +kernel
theorem dX4_parseValue_61 : decode cX4_parseValue 61 = .ok (.aconst_null, 1) := by decide +kernel
theorem dX4_parseValue_62 : decode cX4_parseValue 62 = .ok (.areturn, 1) := by decide +kernel
theorem dX4_parseValue_63 : decode cX4_parseValue 63 = .ok (.aload_n 0, 1) := by decide +kernel
theorem dX4_parseValue_64 : decode cX4_parseValue 64 = .ok (.getfield 21, 3) := by decide +kernel
theorem dX4_parseValue_67 : decode cX4_parseValue 67 = .ok (.aload_n 0, 1) := by decide +kernel
theorem dX4_parseValue_68 : decode cX4_parseValue 68 = .ok (.getfield 26, 3) := by decide +kernel
theorem dX4_parseValue_71 : decode cX4_parseValue 71 = .ok (.aaload, 1) := by decide +kernel
theorem dX4_parseValue_72 : decode cX4_parseValue 72 = .ok (.astore_n 3, 1) := by decide +kernel
theorem dX4_parseValue_73 : decode cX4_parseValue 73 = .ok (.aload_n 0, 1) := by decide +kernel
theorem dX4_parseValue_74 : decode cX4_parseValue 74 = .ok (.dup, 1) := by decide +kernel
theorem dX4_parseValue_75 : decode cX4_parseValue 75 = .ok (.getfield 26, 3) := by decide +kernel
theorem dX4_parseValue_78 : decode cX4_parseValue 78 = .ok (.iconst 1, 1) := by decide +kernel
theorem dX4_parseValue_79 : decode cX4_parseValue 79 = .ok (.iadd, 1) := by decide +kernel
theorem dX4_parseValue_80 : decode cX4_parseValue 80 = .ok (.putfield 26, 3) := by decide +kernel
theorem dX4_parseValue_83 : decode cX4_parseValue 83 = .ok (.aload_n 3, 1) := by decide +kernel
theorem dX4_parseValue_84 : decode cX4_parseValue 84 = .ok (.iload_n 1, 1) := by decide +kernel
theorem dX4_parseValue_85 : decode cX4_parseValue 85 = .ok (.iload_n 2, 1) := by decide +kernel
theorem dX4_parseValue_86 : decode cX4_parseValue 86 = .ok (.invokevirtual 54, 3) := by decide +kernel
theorem dX4_parseValue_89 : decode cX4_parseValue 89 = .ok (.iconst 0, 1) := by decide +kernel
theorem dX4_parseValue_90 : decode cX4_parseValue 90 = .ok (.istore 4, 2) := by decide +kernel
theorem dX4_parseValue_92 : decode cX4_parseValue 92 = .ok (.iload 4, 2) := by decide +kernel
theorem dX4_parseValue_94 : decode cX4_parseValue 94 = .ok (.iconst 3, 1) := by decide +kernel
theorem dX4_parseValue_95 : decode cX4_parseValue 95 = .ok (.if_icmp .ge 39, 3) := by decide +kernel
theorem dX4_parseValue_98 : decode cX4_parseValue 98 = .ok (.aload_n 0, 1) := by decide +kernel
theorem dX4_parseValue_99 : decode cX4_parseValue 99 = .ok (.getfield 9, 3) := by decide +kernel
theorem dX4_parseValue_102 : decode cX4_parseValue 102 = .ok (.iload_n 2, 1) := by decide +kernel
theorem dX4_parseValue_103 : decode cX4_parseValue 103 = .ok (.iload 4, 2) := by decide +kernel
theorem dX4_parseValue_105 : decode cX4_parseValue 105 = .ok (.invokevirtual 58, 3) := by decide +kernel
theorem dX4_parseValue_108 : decode cX4_parseValue 108 = .ok (.istore 5, 2) := by decide +kernel
theorem dX4_parseValue_110 : decode cX4_parseValue 110 = .ok (.iload 5, 2) := by decide +kernel
theorem dX4_parseValue_112 : decode cX4_parseValue 112 = .ok (.iconst (-1), 1) := by decide +kernel
theorem dX4_parseValue_113 : decode cX4_parseValue 113 = .ok (.if_icmp .eq 15, 3) := by decide +kernel
theorem dX4_parseValue_116 : decode cX4_parseValue 116 = .ok (.aload_n 0, 1) := by decide +kernel
theorem dX4_parseValue_117 : decode cX4_parseValue 117 = .ok (.aload_n 3, 1) := by decide +kernel
theorem dX4_parseValue_118 : decode cX4_parseValue 118 = .ok (.iload 5, 2) := by decide +kernel
theorem dX4_parseValue_120 : decode cX4_parseValue 120 = .ok (.invokevirtual 62, 3) := by decide +kernel
theorem dX4_parseValue_123 : decode cX4_parseValue 123 = .ok (.ifCond .ne 5, 3) := by decide +kernel
theorem dX4_parseValue_126 : decode cX4_parseValue 126 = .ok (.aconst_null, 1) := by decide +kernel
theorem dX4_parseValue_127 : decode cX4_parseValue 127 = .ok (.areturn, 1) := by decide +kernel
theorem dX4_parseValue_128 : decode cX4_parseValue 128 = .ok (.iinc 4 1, 3) := by decide +kernel
theorem dX4_parseValue_131 : decode cX4_parseValue 131 = .ok (.goto (-39), 3) := by decide +kernel
theorem dX4_parseValue_134 : decode cX4_parseValue 134 = .ok (.aload_n 3, 1) := by decide +kernel
theorem dX4_parseValue_135 : decode cX4_parseValue 135 = .ok (.aload_n 0, 1) := by decide +kernel
theorem dX4_parseValue_136 : decode cX4_parseValue 136 = .ok (.getfield 9, 3) := by decide +kernel
theorem dX4_parseValue_139 : decode cX4_parseValue 139 = .ok (.iload_n 2, 1) := by decide +kernel
theorem dX4_parseValue_140 : decode cX4_parseValue 140 = .ok (.invokevirtual 66, 3) := by decide +kernel
theorem dX4_parseValue_143 : decode cX4_parseValue 143 = .ok (.invokevirtual 69, 3) := by decide +kernel
theorem dX4_parseValue_146 : decode cX4_parseValue 146 = .ok (.ifCond .eq 7, 3) := by decide +kernel
theorem dX4_parseValue_149 : decode cX4_parseValue 149 = .ok (.aload_n 3, 1) := by decide +kernel
theorem dX4_parseValue_150 : decode cX4_parseValue 150 = .ok (.goto 4, 3) := by decide +kernel
theorem dX4_parseValue_153 : decode cX4_parseValue 153 = .ok (.aconst_null, 1) := by decide +kernel
theorem dX4_parseValue_154 : decode cX4_parseValue 154 = .ok (.areturn, 1) := by decide +kernel
theorem dX4_parseArgument_0 : decode cX4_parseArgument 0 = .ok (.iload_n 2, 1) := by decide +kernel
theorem dX4_parseArgument_1 : decode cX4_parseArgument 1 = .ok (.bipush 9, 2) := by decide +kernel
theorem dX4_parseArgument_3 : decode cX4_parseArgument 3 = .ok (.if_icmp .ne 39, 3) := by decide +kernel
theorem dX4_parseArgument_6 : decode cX4_parseArgument 6 = .ok (.aload_n 0, 1) := by decide +kernel
theorem dX4_parseArgument_7 : decode cX4_parseArgument 7 = .ok (.invokevirtual 40, 3) := by decide +kernel
theorem dX4_parseArgument_10 : decode cX4_parseArgument 10 = .ok (.istore_n 3, 1) := by decide +kernel
theorem dX4_parseArgument_11 : decode cX4_parseArgument 11 = .ok (.iload_n 3, 1) := by decide +kernel
theorem dX4_parseArgument_12 : decode cX4_parseArgument 12 = .ok (.aload_n 0, 1) := by decide +kernel
theorem dX4_parseArgument_13 : decode cX4_parseArgument 13 = .ok (.getfield 9, 3) := by decide +kernel
theorem dX4_parseArgument_16 : decode cX4_parseArgument 16 = .ok (.getfield 72, 3) := by decide +kernel
theorem dX4_parseArgument_19 : decode cX4_parseArgument 19 = .ok (.if_icmp .lt 14, 3) := by decide +kernel
theorem dX4_parseArgument_22 : decode cX4_parseArgument 22 = .ok (.iload_n 3, 1) := by decide +kernel
theorem dX4_parseArgument_23 : decode cX4_parseArgument 23 = .ok (.aload_n 0, 1) := by decide +kernel
theorem dX4_parseArgument_24 : decode cX4_parseArgument 24 = .ok (.getfield 9, 3) := by decide +kernel
theorem dX4_parseArgument_27 : decode cX4_parseArgument 27 = .ok (.getfield 75, 3) := by decide +kernel
theorem dX4_parseArgument_30 : decode cX4_parseArgument 30 = .ok (.if_icmp .le 5, 3) := by decide +kernel
theorem dX4_parseArgument_33 : decode cX4_parseArgument 33 = .ok (.iconst 0, 1) := by decide +kernel
theorem dX4_parseArgument_34 : decode cX4_parseArgument 34 = .ok (.ireturn, 1) := by decide +kernel
theorem dX4_parseArgument_35 : decode cX4_parseArgument 35 = .ok (.aload_n 1, 1) := by decide +kernel
theorem dX4_parseArgument_36 : decode cX4_parseArgument 36 = .ok (.iload_n 3, 1) := by decide +kernel
theorem dX4_parseArgument_37 : decode cX4_parseArgument 37 = .ok (.invokevirtual 78, 3) := by decide +kernel
theorem dX4_parseArgument_40 : decode cX4_parseArgument 40 = .ok (.iconst 1, 1) := by decide +kernel
theorem dX4_parseArgument_41 : decode cX4_parseArgument 41 = .ok (.ireturn, 1) := by decide +kernel
theorem dX4_parseArgument_42 : decode cX4_parseArgument 42 = .ok (.aload_n 0, 1) := by decide +kernel
theorem dX4_parseArgument_43 : decode cX4_parseArgument 43 = .ok (.iload_n 2, 1) := by decide +kernel
theorem dX4_parseArgument_44 : decode cX4_parseArgument 44 = .ok (.invokevirtual 36, 3) := by decide +kernel
theorem dX4_parseArgument_47 : decode cX4_parseArgument 47 = .ok (.astore_n 3, 1) := by decide +kernel
theorem dX4_parseArgument_48 : decode cX4_parseArgument 48 = .ok (.aload_n 3, 1) := by decide +kernel
theorem dX4_parseArgument_49 : decode cX4_parseArgument 49 = .ok (.ifnonnull 5, 3) := by decide +kernel
theorem dX4_parseArgument_52 : decode cX4_parseArgument 52 = .ok (.iconst 0, 1) := by decide +kernel
theorem dX4_parseArgument_53 : decode cX4_parseArgument 53 = .ok (.ireturn, 1) := by decide +kernel
theorem dX4_parseArgument_54 : decode cX4_parseArgument 54 = .ok (.aload_n 1, 1) := by decide +kernel
theorem dX4_parseArgument_55 : decode cX4_parseArgument 55 = .ok (.aload_n 3, 1) := by decide +kernel
theorem dX4_parseArgument_56 : decode cX4_parseArgument 56 = .ok (.invokevirtual 82, 3) := by decide +kernel
theorem dX4_parseArgument_59 : decode cX4_parseArgument 59 = .ok (.iconst 1, 1) := by decide +kernel
theorem dX4_parseArgument_60 : decode cX4_parseArgument 60 = .ok (.ireturn, 1) := by decide +kernel
theorem dX4_next_0 : decode cX4_next 0 = .ok (.aload_n 0, 1) := by decide +kernel
theorem dX4_next_1 : decode cX4_next 1 = .ok (.getfield 30, 3) := by decide +kernel
theorem dX4_next_4 : decode cX4_next 4 = .ok (.ifCond .lt 23, 3) := by decide +kernel
theorem dX4_next_7 : decode cX4_next 7 = .ok (.aload_n 0, 1) := by decide +kernel
theorem dX4_next_8 : decode cX4_next 8 = .ok (.getfield 30, 3) := by decide +kernel
theorem dX4_next_11 : decode cX4_next 11 = .ok (.aload_n 0, 1) := by decide +kernel
theorem dX4_next_12 : decode cX4_next 12 = .ok (.getfield 33, 3) := by decide +kernel
theorem dX4_next_15 : decode cX4_next 15 = .ok (.if_icmp .ge 12, 3) := by decide +kernel
theorem dX4_next_18 : decode cX4_next 18 = .ok (.aload_n 0, 1) := by decide +kernel
theorem dX4_next_19 : decode cX4_next 19 = .ok (.getfield 30, 3) := by decide +kernel
theorem dX4_next_22 : decode cX4_next 22 = .ok (.bipush 40, 2) := by decide +kernel
theorem dX4_next_24 : decode cX4_next 24 = .ok (.if_icmp .lt 5, 3) := by decide +kernel
theorem dX4_next_27 : decode cX4_next 27 = .ok (.iconst (-1), 1) := by decide +kernel
theorem dX4_next_28 : decode cX4_next 28 = .ok (.ireturn, 1) := by decide +kernel
theorem dX4_next_29 : decode cX4_next 29 = .ok (.aload_n 0, 1) := by decide +kernel
theorem dX4_next_30 : decode cX4_next 30 = .ok (.dup, 1) := by decide +kernel
theorem dX4_next_31 : decode cX4_next 31 = .ok (.getfield 30, 3) := by decide +kernel
theorem dX4_next_34 : decode cX4_next 34 = .ok (.iconst 1, 1) := by decide +kernel
theorem dX4_next_35 : decode cX4_next 35 = .ok (.iadd, 1) := by decide +kernel
theorem dX4_next_36 : decode cX4_next 36 = .ok (.putfield 30, 3) := by decide +kernel
theorem dX4_next_39 : decode cX4_next 39 = .ok (.aload_n 0, 1) := by decide +kernel
theorem dX4_next_40 : decode cX4_next 40 = .ok (.getfield 15, 3) := by decide +kernel
theorem dX4_next_43 : decode cX4_next 43 = .ok (.aload_n 0, 1) := by decide +kernel
theorem dX4_next_44 : decode cX4_next 44 = .ok (.getfield 30, 3) := by decide +kernel
theorem dX4_next_47 : decode cX4_next 47 = .ok (.iconst 1, 1) := by decide +kernel
theorem dX4_next_48 : decode cX4_next 48 = .ok (.isub, 1) := by decide +kernel
theorem dX4_next_49 : decode cX4_next 49 = .ok (.iaload, 1) := by decide +kernel
theorem dX4_next_50 : decode cX4_next 50 = .ok (.ireturn, 1) := by decide +kernel
theorem dX5_init_0 : decode cX5_init 0 = .ok (.aload_n 0, 1) := by decide +kernel
theorem dX5_init_1 : decode cX5_init 1 = .ok (.invokespecial 3, 3) := by decide +kernel
theorem dX5_init_4 : decode cX5_init 4 = .ok (.aload_n 0, 1) := by decide +kernel
theorem dX5_init_5 : decode cX5_init 5 = .ok (.iconst 3, 1) := by decide +kernel
theorem dX5_init_6 : decode cX5_init 6 = .ok (.newarray .int, 2) := by decide +kernel
theorem dX5_init_8 : decode cX5_init 8 = .ok (.putfield 9, 3) := by decide +kernel
theorem dX5_init_11 : decode cX5_init 11 = .ok (.aload_n 0, 1) := by decide +kernel
theorem dX5_init_12 : decode cX5_init 12 = .ok (.iconst 3, 1) := by decide +kernel
theorem dX5_init_13 : decode cX5_init 13 = .ok (.anewarray 10, 3) := by decide +kernel
theorem dX5_init_16 : decode cX5_init 16 = .ok (.putfield 15, 3) := by decide +kernel
theorem dX5_init_19 : decode cX5_init 19 = .ok (.return_, 1) := by decide +kernel
theorem dX5_begin_0 : decode cX5_begin 0 = .ok (.aload_n 0, 1) := by decide +kernel
theorem dX5_begin_1 : decode cX5_begin 1 = .ok (.iload_n 1, 1) := by decide +kernel
theorem dX5_begin_2 : decode cX5_begin 2 = .ok (.putfield 19, 3) := by decide +kernel
theorem dX5_begin_5 : decode cX5_begin 5 = .ok (.aload_n 0, 1) := by decide +kernel
theorem dX5_begin_6 : decode cX5_begin 6 = .ok (.iconst (-1), 1) := by decide +kernel
theorem dX5_begin_7 : decode cX5_begin 7 = .ok (.putfield 23, 3) := by decide +kernel
theorem dX5_begin_10 : decode cX5_begin 10 = .ok (.aload_n 0, 1) := by decide +kernel
theorem dX5_begin_11 : decode cX5_begin 11 = .ok (.iload_n 2, 1) := by decide +kernel
theorem dX5_begin_12 : decode cX5_begin 12 = .ok (.putfield 26, 3) := by decide +kernel
theorem dX5_begin_15 : decode cX5_begin 15 = .ok (.aload_n 0, 1) := by decide +kernel
theorem dX5_begin_16 : decode cX5_begin 16 = .ok (.iconst 0, 1) := by decide +kernel
theorem dX5_begin_17 : decode cX5_begin 17 = .ok (.putfield 29, 3) := by decide +kernel
theorem dX5_begin_20 : decode cX5_begin 20 = .ok (.aload_n 0, 1) := by decide +kernel
theorem dX5_begin_21 : decode cX5_begin 21 = .ok (.iconst 1, 1) := by decide +kernel
theorem dX5_begin_22 : decode cX5_begin 22 = .ok (.putfield 32, 3) := by decide +kernel
theorem dX5_begin_25 : decode cX5_begin 25 = .ok (.aload_n 0, 1) := by decide +kernel
theorem dX5_begin_26 : decode cX5_begin 26 = .ok (.iconst 1, 1) := by decide +kernel
theorem dX5_begin_27 : decode cX5_begin 27 = .ok (.putfield 35, 3) := by decide +kernel
theorem dX5_begin_30 : decode cX5_begin 30 = .ok (.aload_n 0, 1) := by decide +kernel
theorem dX5_begin_31 : decode cX5_begin 31 = .ok (.iconst 0, 1) := by decide +kernel
theorem dX5_begin_32 : decode cX5_begin 32 = .ok (.putfield 38, 3) := by decide +kernel
theorem dX5_begin_35 : decode cX5_begin 35 = .ok (.aload_n 0, 1) := by decide +kernel
theorem dX5_begin_36 : decode cX5_begin 36 = .ok (.iconst (-1), 1) := by decide +kernel
theorem dX5_begin_37 : decode cX5_begin 37 = .ok (.putfield 41, 3) := by decide +kernel
theorem dX5_begin_40 : decode cX5_begin 40 = .ok (.aload_n 0, 1) := by decide +kernel
theorem dX5_begin_41 : decode cX5_begin 41 = .ok (.iconst 0, 1) := by decide +kernel
theorem dX5_begin_42 : decode cX5_begin 42 = .ok (.putfield 44, 3) := by decide +kernel
theorem dX5_begin_45 : decode cX5_begin 45 = .ok (.aload_n 0, 1) := by decide +kernel
theorem dX5_begin_46 : decode cX5_begin 46 = .ok (.iconst 0, 1) := by decide +kernel
theorem dX5_begin_47 : decode cX5_begin 47 = .ok (.putfield 47, 3) := by decide +kernel
theorem dX5_begin_50 : decode cX5_begin 50 = .ok (.aload_n 0, 1) := by decide +kernel
theorem dX5_begin_51 : decode cX5_begin 51 = .ok (.iconst 0, 1) := by decide +kernel
theorem dX5_begin_52 : decode cX5_begin 52 = .ok (.putfield 50, 3) := by decide +kernel
theorem dX5_begin_55 : decode cX5_begin 55 = .ok (.aload_n 0, 1) := by decide +kernel
theorem dX5_begin_56 : decode cX5_begin 56 = .ok (.iconst 0, 1) := by decide +kernel
theorem dX5_begin_57 : decode cX5_begin 57 = .ok (.putfield 53, 3) := by decide +kernel
theorem dX5_begin_60 : decode cX5_begin 60 = .ok (.aload_n 0, 1) := by decide +kernel
theorem dX5_begin_61 : decode cX5_begin 61 = .ok (.iconst 0, 1) := by decide +kernel
theorem dX5_begin_62 : decode cX5_begin 62 = .ok (.putfield 56, 3) := by decide +kernel
theorem dX5_begin_65 : decode cX5_begin 65 = .ok (.aload_n 0, 1) := by decide +kernel
theorem dX5_begin_66 : decode cX5_begin 66 = .ok (.iconst 1, 1) := by decide +kernel
theorem dX5_begin_67 : decode cX5_begin 67 = .ok (.putfield 59, 3) := by decide +kernel
theorem dX5_begin_70 : decode cX5_begin 70 = .ok (.return_, 1) := by decide +kernel
theorem dX5_copyFrom_0 : decode cX5_copyFrom 0 = .ok (.aload_n 0, 1) := by decide +kernel
theorem dX5_copyFrom_1 : decode cX5_copyFrom 1 = .ok (.aload_n 1, 1) := by decide +kernel
theorem dX5_copyFrom_2 : decode cX5_copyFrom 2 = .ok (.getfield 19, 3) := by decide +kernel
theorem dX5_copyFrom_5 : decode cX5_copyFrom 5 = .ok (.putfield 19, 3) := by decide +kernel
theorem dX5_copyFrom_8 : decode cX5_copyFrom 8 = .ok (.aload_n 0, 1) := by decide +kernel
theorem dX5_copyFrom_9 : decode cX5_copyFrom 9 = .ok (.aload_n 1, 1) := by decide +kernel
theorem dX5_copyFrom_10 : decode cX5_copyFrom 10 = .ok (.getfield 23, 3) := by decide +kernel
theorem dX5_copyFrom_13 : decode cX5_copyFrom 13 = .ok (.putfield 23, 3) := by decide +kernel
theorem dX5_copyFrom_16 : decode cX5_copyFrom 16 = .ok (.aload_n 0, 1) := by decide +kernel
theorem dX5_copyFrom_17 : decode cX5_copyFrom 17 = .ok (.aload_n 1, 1) := by decide +kernel
theorem dX5_copyFrom_18 : decode cX5_copyFrom 18 = .ok (.getfield 26, 3) := by decide +kernel
theorem dX5_copyFrom_21 : decode cX5_copyFrom 21 = .ok (.putfield 26, 3) := by decide +kernel
theorem dX5_copyFrom_24 : decode cX5_copyFrom 24 = .ok (.aload_n 0, 1) := by decide +kernel
theorem dX5_copyFrom_25 : decode cX5_copyFrom 25 = .ok (.aload_n 1, 1) := by decide +kernel
theorem dX5_copyFrom_26 : decode cX5_copyFrom 26 = .ok (.getfield 29, 3) := by decide +kernel
theorem dX5_copyFrom_29 : decode cX5_copyFrom 29 = .ok (.putfield 29, 3) := by decide +kernel
theorem dX5_copyFrom_32 : decode cX5_copyFrom 32 = .ok (.iconst 0, 1) := by decide +kernel
theorem dX5_copyFrom_33 : decode cX5_copyFrom 33 = .ok (.istore_n 2, 1) := by decide +kernel
theorem dX5_copyFrom_34 : decode cX5_copyFrom 34 = .ok (.iload_n 2, 1) := by decide +kernel
theorem dX5_copyFrom_35 : decode cX5_copyFrom 35 = .ok (.aload_n 0, 1) := by decide +kernel
theorem dX5_copyFrom_36 : decode cX5_copyFrom 36 = .ok (.getfield 29, 3) := by decide +kernel
theorem dX5_copyFrom_39 : decode cX5_copyFrom 39 = .ok (.if_icmp .ge 38, 3) := by decide +kernel
theorem dX5_copyFrom_42 : decode cX5_copyFrom 42 = .ok (.iload_n 2, 1) := by decide +kernel
theorem dX5_copyFrom_43 : decode cX5_copyFrom 43 = .ok (.iconst 3, 1) := by decide +kernel
theorem dX5_copyFrom_44 : decode cX5_copyFrom 44 = .ok (.if_icmp .ge 33, 3) := by decide +kernel
theorem dX5_copyFrom_47 : decode cX5_copyFrom 47 = .ok (.aload_n 0, 1) := by decide +kernel
theorem dX5_copyFrom_48 : decode cX5_copyFrom 48 = .ok (.getfield 9, 3) := by decide +kernel
theorem dX5_copyFrom_51 : decode cX5_copyFrom 51 = .ok (.iload_n 2, 1) := by decide +kernel
theorem dX5_copyFrom_52 : decode cX5_copyFrom 52 = .ok (.aload_n 1, 1) := by decide +kernel
theorem dX5_copyFrom_53 : decode cX5_copyFrom 53 = .ok (.getfield 9, 3) := by decide +kernel
theorem dX5_copyFrom_56 : decode cX5_copyFrom 56 = .ok (.iload_n 2, 1) := by decide +kernel
theorem dX5_copyFrom_57 : decode cX5_copyFrom 57 = .ok (.iaload, 1) := by decide +kernel
theorem dX5_copyFrom_58 : decode cX5_copyFrom 58 = .ok (.iastore, 1) := by decide +kernel
theorem dX5_copyFrom_59 : decode cX5_copyFrom 59 = .ok (.aload_n 0, 1) := by decide +kernel
theorem dX5_copyFrom_60 : decode cX5_copyFrom 60 = .ok (.getfield 15, 3) := by decide +kernel
theorem dX5_copyFrom_63 : decode cX5_copyFrom 63 = .ok (.iload_n 2, 1) := by decide +kernel
theorem dX5_copyFrom_64 : decode cX5_copyFrom 64 = .ok (.aload_n 1, 1) := by decide +kernel
theorem dX5_copyFrom_65 : decode cX5_copyFrom 65 = .ok (.getfield 15, 3) := by decide +kernel
theorem dX5_copyFrom_68 : decode cX5_copyFrom 68 = .ok (.iload_n 2, 1) := by decide +kernel
theorem dX5_copyFrom_69 : decode cX5_copyFrom 69 = .ok (.aaload, 1) := by decide +kernel
theorem dX5_copyFrom_70 : decode cX5_copyFrom 70 = .ok (.aastore, 1) := by decide +kernel
theorem dX5_copyFrom_71 : decode cX5_copyFrom 71 = .ok (.iinc 2 1, 3) := by decide +kernel
theorem dX5_copyFrom_74 : decode cX5_copyFrom 74 = .ok (.goto (-40), 3) := by decide +kernel
theorem dX5_copyFrom_77 : decode cX5_copyFrom 77 = .ok (.aload_n 0, 1) := by decide +kernel
theorem dX5_copyFrom_78 : decode cX5_copyFrom 78 = .ok (.aload_n 1, 1) := by decide +kernel
theorem dX5_copyFrom_79 : decode cX5_copyFrom 79 = .ok (.getfield 32, 3) := by decide +kernel
theorem dX5_copyFrom_82 : decode cX5_copyFrom 82 = .ok (.putfield 32, 3) := by decide +kernel
theorem dX5_copyFrom_85 : decode cX5_copyFrom 85 = .ok (.aload_n 0, 1) := by decide +kernel
theorem dX5_copyFrom_86 : decode cX5_copyFrom 86 = .ok (.aload_n 1, 1) := by decide +kernel
theorem dX5_copyFrom_87 : decode cX5_copyFrom 87 = .ok (.getfield 35, 3) := by decide +kernel
theorem dX5_copyFrom_90 : decode cX5_copyFrom 90 = .ok (.putfield 35, 3) := by decide +kernel
theorem dX5_copyFrom_93 : decode cX5_copyFrom 93 = .ok (.aload_n 0, 1) := by decide +kernel
theorem dX5_copyFrom_94 : decode cX5_copyFrom 94 = .ok (.aload_n 1, 1) := by decide +kernel
theorem dX5_copyFrom_95 : decode cX5_copyFrom 95 = .ok (.getfield 38, 3) := by decide +kernel
theorem dX5_copyFrom_98 : decode cX5_copyFrom 98 = .ok (.putfield 38, 3) := by decide +kernel
theorem dX5_copyFrom_101 : decode cX5_copyFrom 101 = .ok (.aload_n 0, 1) := by decide +kernel
theorem dX5_copyFrom_102 : decode cX5_copyFrom 102 = .ok (.aload_n 1, 1) := by decide +kernel
theorem dX5_copyFrom_103 : decode cX5_copyFrom 103 = .ok (.getfield 41, 3) := by decide +kernel
theorem dX5_copyFrom_106 : decode cX5_copyFrom 106 = .ok (.putfield 41, 3) := by decide +kernel
theorem dX5_copyFrom_109 : decode cX5_copyFrom 109 = .ok (.aload_n 0, 1) := by decide +kernel
theorem dX5_copyFrom_110 : decode cX5_copyFrom 110 = .ok (.aload_n 1, 1) := by decide +kernel
theorem dX5_copyFrom_111 : decode cX5_copyFrom 111 = .ok (.getfield 44, 3) := by decide +kernel
theorem dX5_copyFrom_114 : decode cX5_copyFrom 114 = .ok (.putfield 44, 3) := by decide +kernel
theorem dX5_copyFrom_117 : decode cX5_copyFrom 117 = .ok (.aload_n 0, 1) := by decide +kernel
theorem dX5_copyFrom_118 : decode cX5_copyFrom 118 = .ok (.aload_n 1, 1) := by decide +kernel
theorem dX5_copyFrom_119 : decode cX5_copyFrom 119 = .ok (.getfield 47, 3) := by decide +kernel
theorem dX5_copyFrom_122 : decode cX5_copyFrom 122 = .ok (.putfield 47, 3) := by decide +kernel
theorem dX5_copyFrom_125 : decode cX5_copyFrom 125 = .ok (.aload_n 0, 1) := by decide +kernel
theorem dX5_copyFrom_126 : decode cX5_copyFrom 126 = .ok (.aload_n 1, 1) := by decide +kernel
theorem dX5_copyFrom_127 : decode cX5_copyFrom 127 = .ok (.getfield 50, 3) := by decide +kernel
theorem dX5_copyFrom_130 : decode cX5_copyFrom 130 = .ok (.putfield 50, 3) := by decide +kernel
theorem dX5_copyFrom_133 : decode cX5_copyFrom 133 = .ok (.aload_n 0, 1) := by decide +kernel
theorem dX5_copyFrom_134 : decode cX5_copyFrom 134 = .ok (.aload_n 1, 1) := by decide +kernel
theorem dX5_copyFrom_135 : decode cX5_copyFrom 135 = .ok (.getfield 53, 3) := by decide +kernel
theorem dX5_copyFrom_138 : decode cX5_copyFrom 138 = .ok (.putfield 53, 3) := by decide +kernel
theorem dX5_copyFrom_141 : decode cX5_copyFrom 141 = .ok (.aload_n 0, 1) := by decide +kernel
theorem dX5_copyFrom_142 : decode cX5_copyFrom 142 = .ok (.aload_n 1, 1) := by decide +kernel
theorem dX5_copyFrom_143 : decode cX5_copyFrom 143 = .ok (.getfield 56, 3) := by decide +kernel
theorem dX5_copyFrom_146 : decode cX5_copyFrom 146 = .ok (.putfield 56, 3) := by decide +kernel
theorem dX5_copyFrom_149 : decode cX5_copyFrom 149 = .ok (.aload_n 0, 1) := by decide +kernel
theorem dX5_copyFrom_150 : decode cX5_copyFrom 150 = .ok (.aload_n 1, 1) := by decide +kernel
theorem dX5_copyFrom_151 : decode cX5_copyFrom 151 = .ok (.getfield 59, 3) := by decide +kernel
theorem dX5_copyFrom_154 : decode cX5_copyFrom 154 = .ok (.putfield 59, 3) := by decide +kernel
theorem dX5_copyFrom_157 : decode cX5_copyFrom 157 = .ok (.return_, 1) := by decide +kernel
theorem dX5_addNumber_0 : decode cX5_addNumber 0 = .ok (.aload_n 0, 1) := by decide +kernel
theorem dX5_addNumber_1 : decode cX5_addNumber 1 = .ok (.getfield 29, 3) := by decide +kernel
theorem dX5_addNumber_4 : decode cX5_addNumber 4 = .ok (.ifCond .lt 11, 3) := by decide +kernel
theorem dX5_addNumber_7 : decode cX5_addNumber 7 = .ok (.aload_n 0, 1) := by decide +kernel
theorem dX5_addNumber_8 : decode cX5_addNumber 8 = .ok (.getfield 29, 3) := by decide +kernel
theorem dX5_addNumber_11 : decode cX5_addNumber 11 = .ok (.iconst 3, 1) := by decide +kernel
theorem dX5_addNumber_12 : decode cX5_addNumber 12 = .ok (.if_icmp .lt 4, 3) := by decide +kernel
theorem dX5_addNumber_15 : decode cX5_addNumber 15 = .ok (.return_, 1) := by decide +kernel
theorem dX5_addNumber_16 : decode cX5_addNumber 16 = .ok (.aload_n 0, 1) := by decide +kernel
theorem dX5_addNumber_17 : decode cX5_addNumber 17 = .ok (.getfield 9, 3) := by decide +kernel
theorem dX5_addNumber_20 : decode cX5_addNumber 20 = .ok (.aload_n 0, 1) := by decide +kernel
theorem dX5_addNumber_21 : decode cX5_addNumber 21 = .ok (.getfield 29, 3) := by decide +kernel
theorem dX5_addNumber_24 : decode cX5_addNumber 24 = .ok (.iload_n 1, 1) := by decide +kernel
theorem dX5_addNumber_25 : decode cX5_addNumber 25 = .ok (.iastore, 1) := by decide +kernel
theorem dX5_addNumber_26 : decode cX5_addNumber 26 = .ok (.aload_n 0, 1) := by decide +kernel
theorem dX5_addNumber_27 : decode cX5_addNumber 27 = .ok (.getfield 15, 3) := by decide +kernel
theorem dX5_addNumber_30 : decode cX5_addNumber 30 = .ok (.aload_n 0, 1) := by decide +kernel
theorem dX5_addNumber_31 : decode cX5_addNumber 31 = .ok (.getfield 29, 3) := by decide +kernel
theorem dX5_addNumber_34 : decode cX5_addNumber 34 = .ok (.aconst_null, 1) := by decide +kernel
theorem dX5_addNumber_35 : decode cX5_addNumber 35 = .ok (.aastore, 1) := by decide +kernel
theorem dX5_addNumber_36 : decode cX5_addNumber 36 = .ok (.aload_n 0, 1) := by decide +kernel
theorem dX5_addNumber_37 : decode cX5_addNumber 37 = .ok (.dup, 1) := by decide +kernel
theorem dX5_addNumber_38 : decode cX5_addNumber 38 = .ok (.getfield 29, 3) := by decide +kernel
theorem dX5_addNumber_41 : decode cX5_addNumber 41 = .ok (.iconst 1, 1) := by decide +kernel
theorem dX5_addNumber_42 : decode cX5_addNumber 42 = .ok (.iadd, 1) := by decide +kernel
theorem dX5_addNumber_43 : decode cX5_addNumber 43 = .ok (.putfield 29, 3) := by decide +kernel
theorem dX5_addNumber_46 : decode cX5_addNumber 46 = .ok (.aload_n 0, 1) := by decide +kernel
