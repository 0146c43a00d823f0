theorem dX5_addNumber_47 : decode cX5_addNumber 47 = .ok (.getfield 41, 3) := by decide +kernel
theorem dX5_addNumber_50 : decode cX5_addNumber 50 = .ok (.ifCond .ge 8, 3) := by decide +kernel
theorem dX5_addNumber_53 : decode cX5_addNumber 53 = .ok (.aload_n 0, 1) := by decide +kernel
theorem dX5_addNumber_54 : decode cX5_addNumber 54 = .ok (.iload_n 1, 1) := by decide +kernel
theorem dX5_addNumber_55 : decode cX5_addNumber 55 = .ok (.putfield 41, 3) := by decide +kernel
theorem dX5_addNumber_58 : decode cX5_addNumber 58 = .ok (.aload_n 0, 1) := by decide +kernel
theorem dX5_addNumber_59 : decode cX5_addNumber 59 = .ok (.iload_n 1, 1) := by decide +kernel
theorem dX5_addNumber_60 : decode cX5_addNumber 60 = .ok (.iload_n 1, 1) := by decide +kernel
theorem dX5_addNumber_61 : decode cX5_addNumber 61 = .ok (.iload_n 1, 1) := by decide +kernel
theorem dX5_addNumber_62 : decode cX5_addNumber 62 = .ok (.invokevirtual 63, 3) := by decide +kernel
theorem dX5_addNumber_65 : decode cX5_addNumber 65 = .ok (.aload_n 0, 1) := by decide +kernel
theorem dX5_addNumber_66 : decode cX5_addNumber 66 = .ok (.dup, 1) := by decide +kernel
theorem dX5_addNumber_67 : decode cX5_addNumber 67 = .ok (.getfield 44, 3) := by decide +kernel
theorem dX5_addNumber_70 : decode cX5_addNumber 70 = .ok (.iconst 1, 1) := by decide +kernel
theorem dX5_addNumber_71 : decode cX5_addNumber 71 = .ok (.iadd, 1) := by decide +kernel
theorem dX5_addNumber_72 : decode cX5_addNumber 72 = .ok (.putfield 44, 3) := by decide +kernel
theorem dX5_addNumber_75 : decode cX5_addNumber 75 = .ok (.aload_n 0, 1) := by decide +kernel
theorem dX5_addNumber_76 : decode cX5_addNumber 76 = .ok (.dup, 1) := by decide +kernel
theorem dX5_addNumber_77 : decode cX5_addNumber 77 = .ok (.getfield 47, 3) := by decide +kernel
theorem dX5_addNumber_80 : decode cX5_addNumber 80 = .ok (.iload_n 1, 1) := by decide +kernel
theorem dX5_addNumber_81 : decode cX5_addNumber 81 = .ok (.iadd, 1) := by decide +kernel
theorem dX5_addNumber_82 : decode cX5_addNumber 82 = .ok (.putfield 47, 3) := by decide +kernel
theorem dX5_addNumber_85 : decode cX5_addNumber 85 = .ok (.return_, 1) := by decide +kernel
theorem dX5_addPart_0 : decode cX5_addPart 0 = .ok (.aload_n 0, 1) := by decide +kernel
theorem dX5_addPart_1 : decode cX5_addPart 1 = .ok (.getfield 29, 3) := by decide +kernel
theorem dX5_addPart_4 : decode cX5_addPart 4 = .ok (.ifCond .lt 11, 3) := by decide +kernel
theorem dX5_addPart_7 : decode cX5_addPart 7 = .ok (.aload_n 0, 1) := by decide +kernel
theorem dX5_addPart_8 : decode cX5_addPart 8 = .ok (.getfield 29, 3) := by decide +kernel
theorem dX5_addPart_11 : decode cX5_addPart 11 = .ok (.iconst 3, 1) := by decide +kernel
theorem dX5_addPart_12 : decode cX5_addPart 12 = .ok (.if_icmp .lt 4, 3) := by decide +kernel
theorem dX5_addPart_15 : decode cX5_addPart 15 = .ok (.return_, 1) := by decide +kernel
theorem dX5_addPart_16 : decode cX5_addPart 16 = .ok (.aload_n 0, 1) := by decide +kernel
theorem dX5_addPart_17 : decode cX5_addPart 17 = .ok (.getfield 9, 3) := by decide +kernel
theorem dX5_addPart_20 : decode cX5_addPart 20 = .ok (.aload_n 0, 1) := by decide +kernel
theorem dX5_addPart_21 : decode cX5_addPart 21 = .ok (.getfield 29, 3) := by decide +kernel
theorem dX5_addPart_24 : decode cX5_addPart 24 = .ok (.iconst 0, 1) := by decide +kernel
theorem dX5_addPart_25 : decode cX5_addPart 25 = .ok (.iastore, 1) := by decide +kernel
theorem dX5_addPart_26 : decode cX5_addPart 26 = .ok (.aload_n 0, 1) := by decide +kernel
theorem dX5_addPart_27 : decode cX5_addPart 27 = .ok (.getfield 15, 3) := by decide +kernel
theorem dX5_addPart_30 : decode cX5_addPart 30 = .ok (.aload_n 0, 1) := by decide +kernel
theorem dX5_addPart_31 : decode cX5_addPart 31 = .ok (.getfield 29, 3) := by decide +kernel
theorem dX5_addPart_34 : decode cX5_addPart 34 = .ok (.aload_n 1, 1) := by decide +kernel
theorem dX5_addPart_35 : decode cX5_addPart 35 = .ok (.aastore, 1) := by decide +kernel
theorem dX5_addPart_36 : decode cX5_addPart 36 = .ok (.aload_n 0, 1) := by decide +kernel
theorem dX5_addPart_37 : decode cX5_addPart 37 = .ok (.dup, 1) := by decide +kernel
theorem dX5_addPart_38 : decode cX5_addPart 38 = .ok (.getfield 29, 3) := by decide +kernel
theorem dX5_addPart_41 : decode cX5_addPart 41 = .ok (.iconst 1, 1) := by decide +kernel
theorem dX5_addPart_42 : decode cX5_addPart 42 = .ok (.iadd, 1) := by decide +kernel
theorem dX5_addPart_43 : decode cX5_addPart 43 = .ok (.putfield 29, 3) := by decide +kernel
theorem dX5_addPart_46 : decode cX5_addPart 46 = .ok (.aload_n 0, 1) := by decide +kernel
theorem dX5_addPart_47 : decode cX5_addPart 47 = .ok (.dup, 1) := by decide +kernel
theorem dX5_addPart_48 : decode cX5_addPart 48 = .ok (.getfield 32, 3) := by decide +kernel
theorem dX5_addPart_51 : decode cX5_addPart 51 = .ok (.aload_n 1, 1) := by decide +kernel
theorem dX5_addPart_52 : decode cX5_addPart 52 = .ok (.getfield 32, 3) := by decide +kernel
theorem dX5_addPart_55 : decode cX5_addPart 55 = .ok (.iadd, 1) := by decide +kernel
theorem dX5_addPart_56 : decode cX5_addPart 56 = .ok (.putfield 32, 3) := by decide +kernel
theorem dX5_addPart_59 : decode cX5_addPart 59 = .ok (.aload_n 0, 1) := by decide +kernel
theorem dX5_addPart_60 : decode cX5_addPart 60 = .ok (.aload_n 1, 1) := by decide +kernel
theorem dX5_addPart_61 : decode cX5_addPart 61 = .ok (.getfield 35, 3) := by decide +kernel
theorem dX5_addPart_64 : decode cX5_addPart 64 = .ok (.aload_n 0, 1) := by decide +kernel
theorem dX5_addPart_65 : decode cX5_addPart 65 = .ok (.getfield 35, 3) := by decide +kernel
theorem dX5_addPart_68 : decode cX5_addPart 68 = .ok (.if_icmp .lt 12, 3) := by decide +kernel
theorem dX5_addPart_71 : decode cX5_addPart 71 = .ok (.aload_n 1, 1) := by decide +kernel
theorem dX5_addPart_72 : decode cX5_addPart 72 = .ok (.getfield 35, 3) := by decide +kernel
theorem dX5_addPart_75 : decode cX5_addPart 75 = .ok (.iconst 1, 1) := by decide +kernel
theorem dX5_addPart_76 : decode cX5_addPart 76 = .ok (.iadd, 1) := by decide +kernel
theorem dX5_addPart_77 : decode cX5_addPart 77 = .ok (.goto 7, 3) := by decide +kernel
theorem dX5_addPart_80 : decode cX5_addPart 80 = .ok (.aload_n 0, 1) := by decide +kernel
theorem dX5_addPart_81 : decode cX5_addPart 81 = .ok (.getfield 35, 3) := by decide +kernel
theorem dX5_addPart_84 : decode cX5_addPart 84 = .ok (.putfield 35, 3) := by decide +kernel
theorem dX5_addPart_87 : decode cX5_addPart 87 = .ok (.aload_n 0, 1) := by decide +kernel
theorem dX5_addPart_88 : decode cX5_addPart 88 = .ok (.aload_n 0, 1) := by decide +kernel
theorem dX5_addPart_89 : decode cX5_addPart 89 = .ok (.getfield 38, 3) := by decide +kernel
theorem dX5_addPart_92 : decode cX5_addPart 92 = .ok (.ifCond .eq 14, 3) := by decide +kernel
theorem dX5_addPart_95 : decode cX5_addPart 95 = .ok (.aload_n 1, 1) := by decide +kernel
theorem dX5_addPart_96 : decode cX5_addPart 96 = .ok (.getfield 35, 3) := by decide +kernel
theorem dX5_addPart_99 : decode cX5_addPart 99 = .ok (.aload_n 0, 1) := by decide +kernel
theorem dX5_addPart_100 : decode cX5_addPart 100 = .ok (.getfield 38, 3) := by decide +kernel
theorem dX5_addPart_103 : decode cX5_addPart 103 = .ok (.if_icmp .ge 10, 3) := by decide +kernel
theorem dX5_addPart_106 : decode cX5_addPart 106 = .ok (.aload_n 1, 1) := by decide +kernel
theorem dX5_addPart_107 : decode cX5_addPart 107 = .ok (.getfield 35, 3) := by decide +kernel
theorem dX5_addPart_110 : decode cX5_addPart 110 = .ok (.goto 7, 3) := by decide +kernel
theorem dX5_addPart_113 : decode cX5_addPart 113 = .ok (.aload_n 0, 1) := by decide +kernel
theorem dX5_addPart_114 : decode cX5_addPart 114 = .ok (.getfield 38, 3) := by decide +kernel
theorem dX5_addPart_117 : decode cX5_addPart 117 = .ok (.putfield 38, 3) := by decide +kernel
theorem dX5_addPart_120 : decode cX5_addPart 120 = .ok (.aload_n 1, 1) := by decide +kernel
theorem dX5_addPart_121 : decode cX5_addPart 121 = .ok (.getfield 44, 3) := by decide +kernel
theorem dX5_addPart_124 : decode cX5_addPart 124 = .ok (.ifCond .le 68, 3) := by decide +kernel
theorem dX5_addPart_127 : decode cX5_addPart 127 = .ok (.aload_n 0, 1) := by decide +kernel
theorem dX5_addPart_128 : decode cX5_addPart 128 = .ok (.aload_n 1, 1) := by decide +kernel
theorem dX5_addPart_129 : decode cX5_addPart 129 = .ok (.getfield 53, 3) := by decide +kernel
theorem dX5_addPart_132 : decode cX5_addPart 132 = .ok (.aload_n 1, 1) := by decide +kernel
theorem dX5_addPart_133 : decode cX5_addPart 133 = .ok (.getfield 56, 3) := by decide +kernel
theorem dX5_addPart_136 : decode cX5_addPart 136 = .ok (.aload_n 1, 1) := by decide +kernel
theorem dX5_addPart_137 : decode cX5_addPart 137 = .ok (.getfield 50, 3) := by decide +kernel
theorem dX5_addPart_140 : decode cX5_addPart 140 = .ok (.invokevirtual 63, 3) := by decide +kernel
theorem dX5_addPart_143 : decode cX5_addPart 143 = .ok (.aload_n 0, 1) := by decide +kernel
theorem dX5_addPart_144 : decode cX5_addPart 144 = .ok (.aload_n 0, 1) := by decide +kernel
theorem dX5_addPart_145 : decode cX5_addPart 145 = .ok (.getfield 59, 3) := by decide +kernel
theorem dX5_addPart_148 : decode cX5_addPart 148 = .ok (.ifCond .eq 14, 3) := by decide +kernel
theorem dX5_addPart_151 : decode cX5_addPart 151 = .ok (.aload_n 1, 1) := by decide +kernel
theorem dX5_addPart_152 : decode cX5_addPart 152 = .ok (.getfield 59, 3) := by decide +kernel
theorem dX5_addPart_155 : decode cX5_addPart 155 = .ok (.ifCond .eq 7, 3) := by decide +kernel
theorem dX5_addPart_158 : decode cX5_addPart 158 = .ok (.iconst 1, 1) := by decide +kernel
theorem dX5_addPart_159 : decode cX5_addPart 159 = .ok (.goto 4, 3) := by decide +kernel
theorem dX5_addPart_162 : decode cX5_addPart 162 = .ok (.iconst 0, 1) := by decide +kernel
theorem dX5_addPart_163 : decode cX5_addPart 163 = .ok (.putfield 59, 3) := by decide +kernel
theorem dX5_addPart_166 : decode cX5_addPart 166 = .ok (.aload_n 0, 1) := by decide +kernel
theorem dX5_addPart_167 : decode cX5_addPart 167 = .ok (.dup, 1) := by decide +kernel
theorem dX5_addPart_168 : decode cX5_addPart 168 = .ok (.getfield 44, 3) := by decide +kernel
theorem dX5_addPart_171 : decode cX5_addPart 171 = .ok (.aload_n 1, 1) := by decide +kernel
theorem dX5_addPart_172 : decode cX5_addPart 172 = .ok (.getfield 44, 3) := by decide +kernel
theorem dX5_addPart_175 : decode cX5_addPart 175 = .ok (.iadd, 1) := by decide +kernel
theorem dX5_addPart_176 : decode cX5_addPart 176 = .ok (.putfield 44, 3) := by decide +kernel
theorem dX5_addPart_179 : decode cX5_addPart 179 = .ok (.aload_n 0, 1) := by decide +kernel
theorem dX5_addPart_180 : decode cX5_addPart 180 = .ok (.dup, 1) := by decide +kernel
theorem dX5_addPart_181 : decode cX5_addPart 181 = .ok (.getfield 47, 3) := by decide +kernel
theorem dX5_addPart_184 : decode cX5_addPart 184 = .ok (.aload_n 1, 1) := by decide +kernel
theorem dX5_addPart_185 : decode cX5_addPart 185 = .ok (.getfield 47, 3) := by decide +kernel
theorem dX5_addPart_188 : decode cX5_addPart 188 = .ok (.iadd, 1) := by decide +kernel
theorem dX5_addPart_189 : decode cX5_addPart 189 = .ok (.putfield 47, 3) := by decide +kernel
theorem dX5_addPart_192 : decode cX5_addPart 192 = .ok (.return_, 1) := by decide +kernel
theorem dX5_joinInts_0 : decode cX5_joinInts 0 = .ok (.aload_n 0, 1) := by decide +kernel
theorem dX5_joinInts_1 : decode cX5_joinInts 1 = .ok (.getfield 44, 3) := by decide +kernel
theorem dX5_joinInts_4 : decode cX5_joinInts 4 = .ok (.ifCond .ne 16, 3) := by decide +kernel
theorem dX5_joinInts_7 : decode cX5_joinInts 7 = .ok (.aload_n 0, 1) := by decide +kernel
theorem dX5_joinInts_8 : decode cX5_joinInts 8 = .ok (.iload_n 1, 1) := by decide +kernel
theorem dX5_joinInts_9 : decode cX5_joinInts 9 = .ok (.putfield 53, 3) := by decide +kernel
theorem dX5_joinInts_12 : decode cX5_joinInts 12 = .ok (.aload_n 0, 1) := by decide +kernel
theorem dX5_joinInts_13 : decode cX5_joinInts 13 = .ok (.iload_n 3, 1) := by decide +kernel
theorem dX5_joinInts_14 : decode cX5_joinInts 14 = .ok (.putfield 50, 3) := by decide +kernel
theorem dX5_joinInts_17 : decode cX5_joinInts 17 = .ok (.goto 47, 3) := by decide +kernel
theorem dX5_joinInts_20 : decode cX5_joinInts 20 = .ok (.aload_n 0, 1) := by decide +kernel
theorem dX5_joinInts_21 : decode cX5_joinInts 21 = .ok (.aload_n 0, 1) := by decide +kernel
theorem dX5_joinInts_22 : decode cX5_joinInts 22 = .ok (.getfield 59, 3) := by decide +kernel
theorem dX5_joinInts_25 : decode cX5_joinInts 25 = .ok (.ifCond .eq 15, 3) := by decide +kernel
theorem dX5_joinInts_28 : decode cX5_joinInts 28 = .ok (.aload_n 0, 1) := by decide +kernel
theorem dX5_joinInts_29 : decode cX5_joinInts 29 = .ok (.getfield 56, 3) := by decide +kernel
theorem dX5_joinInts_32 : decode cX5_joinInts 32 = .ok (.iload_n 1, 1) := by decide +kernel
theorem dX5_joinInts_33 : decode cX5_joinInts 33 = .ok (.if_icmp .ge 7, 3) := by decide +kernel
theorem dX5_joinInts_36 : decode cX5_joinInts 36 = .ok (.iconst 1, 1) := by decide +kernel
theorem dX5_joinInts_37 : decode cX5_joinInts 37 = .ok (.goto 4, 3) := by decide +kernel
theorem dX5_joinInts_40 : decode cX5_joinInts 40 = .ok (.iconst 0, 1) := by decide +kernel
theorem dX5_joinInts_41 : decode cX5_joinInts 41 = .ok (.putfield 59, 3) := by decide +kernel
theorem dX5_joinInts_44 : decode cX5_joinInts 44 = .ok (.aload_n 0, 1) := by decide +kernel
theorem dX5_joinInts_45 : decode cX5_joinInts 45 = .ok (.iload_n 3, 1) := by decide +kernel
theorem dX5_joinInts_46 : decode cX5_joinInts 46 = .ok (.aload_n 0, 1) := by decide +kernel
theorem dX5_joinInts_47 : decode cX5_joinInts 47 = .ok (.getfield 50, 3) := by decide +kernel
theorem dX5_joinInts_50 : decode cX5_joinInts 50 = .ok (.if_icmp .ge 7, 3) := by decide +kernel
theorem dX5_joinInts_53 : decode cX5_joinInts 53 = .ok (.iload_n 3, 1) := by decide +kernel
theorem dX5_joinInts_54 : decode cX5_joinInts 54 = .ok (.goto 7, 3) := by decide +kernel
theorem dX5_joinInts_57 : decode cX5_joinInts 57 = .ok (.aload_n 0, 1) := by decide +kernel
theorem dX5_joinInts_58 : decode cX5_joinInts 58 = .ok (.getfield 50, 3) := by decide +kernel
theorem dX5_joinInts_61 : decode cX5_joinInts 61 = .ok (.putfield 50, 3) := by decide +kernel
theorem dX5_joinInts_64 : decode cX5_joinInts 64 = .ok (.aload_n 0, 1) := by decide +kernel
theorem dX5_joinInts_65 : decode cX5_joinInts 65 = .ok (.iload_n 2, 1) := by decide +kernel
theorem dX5_joinInts_66 : decode cX5_joinInts 66 = .ok (.putfield 56, 3) := by decide +kernel
theorem dX5_joinInts_69 : decode cX5_joinInts 69 = .ok (.return_, 1) := by decide +kernel
theorem dX5_fits_0 : decode cX5_fits 0 = .ok (.iload_n 1, 1) := by decide +kernel
theorem dX5_fits_1 : decode cX5_fits 1 = .ok (.tableswitch 106 1 5 #[35, 40, 64, 77, 91], 35) := by decide +kernel
theorem dX5_fits_36 : decode cX5_fits 36 = .ok (.aload_n 0, 1) := by decide +kernel
theorem dX5_fits_37 : decode cX5_fits 37 = .ok (.getfield 59, 3) := by decide +kernel
theorem dX5_fits_40 : decode cX5_fits 40 = .ok (.ireturn, 1) := by decide +kernel
theorem dX5_fits_41 : decode cX5_fits 41 = .ok (.aload_n 0, 1) := by decide +kernel
theorem dX5_fits_42 : decode cX5_fits 42 = .ok (.getfield 41, 3) := by decide +kernel
theorem dX5_fits_45 : decode cX5_fits 45 = .ok (.ifCond .lt 14, 3) := by decide +kernel
theorem dX5_fits_48 : decode cX5_fits 48 = .ok (.aload_n 0, 1) := by decide +kernel
theorem dX5_fits_49 : decode cX5_fits 49 = .ok (.getfield 41, 3) := by decide +kernel
theorem dX5_fits_52 : decode cX5_fits 52 = .ok (.aload_n 0, 1) := by decide +kernel
theorem dX5_fits_53 : decode cX5_fits 53 = .ok (.getfield 50, 3) := by decide +kernel
theorem dX5_fits_56 : decode cX5_fits 56 = .ok (.if_icmp .gt 7, 3) := by decide +kernel
theorem dX5_fits_59 : decode cX5_fits 59 = .ok (.iconst 1, 1) := by decide +kernel
theorem dX5_fits_60 : decode cX5_fits 60 = .ok (.goto 4, 3) := by decide +kernel
theorem dX5_fits_63 : decode cX5_fits 63 = .ok (.iconst 0, 1) := by decide +kernel
theorem dX5_fits_64 : decode cX5_fits 64 = .ok (.ireturn, 1) := by decide +kernel
theorem dX5_fits_65 : decode cX5_fits 65 = .ok (.aload_n 0, 1) := by decide +kernel
theorem dX5_fits_66 : decode cX5_fits 66 = .ok (.invokevirtual 67, 3) := by decide +kernel
theorem dX5_fits_69 : decode cX5_fits 69 = .ok (.ifCond .ne 7, 3) := by decide +kernel
theorem dX5_fits_72 : decode cX5_fits 72 = .ok (.iconst 1, 1) := by decide +kernel
theorem dX5_fits_73 : decode cX5_fits 73 = .ok (.goto 4, 3) := by decide +kernel
theorem dX5_fits_76 : decode cX5_fits 76 = .ok (.iconst 0, 1) := by decide +kernel
theorem dX5_fits_77 : decode cX5_fits 77 = .ok (.ireturn, 1) := by decide +kernel
theorem dX5_fits_78 : decode cX5_fits 78 = .ok (.aload_n 0, 1) := by decide +kernel
theorem dX5_fits_79 : decode cX5_fits 79 = .ok (.invokevirtual 67, 3) := by decide +kernel
theorem dX5_fits_82 : decode cX5_fits 82 = .ok (.iconst 1, 1) := by decide +kernel
theorem dX5_fits_83 : decode cX5_fits 83 = .ok (.if_icmp .gt 7, 3) := by decide +kernel
theorem dX5_fits_86 : decode cX5_fits 86 = .ok (.iconst 1, 1) := by decide +kernel
theorem dX5_fits_87 : decode cX5_fits 87 = .ok (.goto 4, 3) := by decide +kernel
theorem dX5_fits_90 : decode cX5_fits 90 = .ok (.iconst 0, 1) := by decide +kernel
theorem dX5_fits_91 : decode cX5_fits 91 = .ok (.ireturn, 1) := by decide +kernel
theorem dX5_fits_92 : decode cX5_fits 92 = .ok (.aload_n 0, 1) := by decide +kernel
theorem dX5_fits_93 : decode cX5_fits 93 = .ok (.getfield 47, 3) := by decide +kernel
theorem dX5_fits_96 : decode cX5_fits 96 = .ok (.iconst 2, 1) := by decide +kernel
theorem dX5_fits_97 : decode cX5_fits 97 = .ok (.irem, 1) := by decide +kernel
theorem dX5_fits_98 : decode cX5_fits 98 = .ok (.ifCond .ne 7, 3) := by decide +kernel
theorem dX5_fits_101 : decode cX5_fits 101 = .ok (.iconst 1, 1) := by decide +kernel
theorem dX5_fits_102 : decode cX5_fits 102 = .ok (.goto 4, 3) := by decide +kernel
theorem dX5_fits_105 : decode cX5_fits 105 = .ok (.iconst 0, 1) := by decide +kernel
theorem dX5_fits_106 : decode cX5_fits 106 = .ok (.ireturn, 1) := by decide +kernel
theorem dX5_fits_107 : decode cX5_fits 107 = .ok (.iconst 1, 1) := by decide +kernel
theorem dX5_fits_108 : decode cX5_fits 108 = .ok (.ireturn, 1) := by decide +kernel
theorem dX5_clashesWith_0 : decode cX5_clashesWith 0 = .ok (.iload_n 2, 1) := by decide +kernel
theorem dX5_clashesWith_1 : decode cX5_clashesWith 1 = .ok (.tableswitch 115 1 4 #[31, 115, 62, 86], 31) := by decide +kernel
theorem dX5_clashesWith_32 : decode cX5_clashesWith 32 = .ok (.aload_n 0, 1) := by decide +kernel
theorem dX5_clashesWith_33 : decode cX5_clashesWith 33 = .ok (.getfield 44, 3) := by decide +kernel
theorem dX5_clashesWith_36 : decode cX5_clashesWith 36 = .ok (.ifCond .le 25, 3) := by decide +kernel
theorem dX5_clashesWith_39 : decode cX5_clashesWith 39 = .ok (.aload_n 1, 1) := by decide +kernel
theorem dX5_clashesWith_40 : decode cX5_clashesWith 40 = .ok (.getfield 44, 3) := by decide +kernel
theorem dX5_clashesWith_43 : decode cX5_clashesWith 43 = .ok (.ifCond .le 18, 3) := by decide +kernel
theorem dX5_clashesWith_46 : decode cX5_clashesWith 46 = .ok (.aload_n 0, 1) := by decide +kernel
theorem dX5_clashesWith_47 : decode cX5_clashesWith 47 = .ok (.getfield 56, 3) := by decide +kernel
theorem dX5_clashesWith_50 : decode cX5_clashesWith 50 = .ok (.aload_n 1, 1) := by decide +kernel
theorem dX5_clashesWith_51 : decode cX5_clashesWith 51 = .ok (.getfield 53, 3) := by decide +kernel
theorem dX5_clashesWith_54 : decode cX5_clashesWith 54 = .ok (.if_icmp .lt 7, 3) := by decide +kernel
theorem dX5_clashesWith_57 : decode cX5_clashesWith 57 = .ok (.iconst 1, 1) := by decide +kernel
theorem dX5_clashesWith_58 : decode cX5_clashesWith 58 = .ok (.goto 4, 3) := by decide +kernel
theorem dX5_clashesWith_61 : decode cX5_clashesWith 61 = .ok (.iconst 0, 1) := by decide +kernel
theorem dX5_clashesWith_62 : decode cX5_clashesWith 62 = .ok (.ireturn, 1) := by decide +kernel
theorem dX5_clashesWith_63 : decode cX5_clashesWith 63 = .ok (.aload_n 0, 1) := by decide +kernel
theorem dX5_clashesWith_64 : decode cX5_clashesWith 64 = .ok (.getfield 38, 3) := by decide +kernel
theorem dX5_clashesWith_67 : decode cX5_clashesWith 67 = .ok (.ifCond .le 18, 3) := by decide +kernel
theorem dX5_clashesWith_70 : decode cX5_clashesWith 70 = .ok (.aload_n 1, 1) := by decide +kernel
theorem dX5_clashesWith_71 : decode cX5_clashesWith 71 = .ok (.getfield 35, 3) := by decide +kernel
theorem dX5_clashesWith_74 : decode cX5_clashesWith 74 = .ok (.aload_n 0, 1) := by decide +kernel
theorem dX5_clashesWith_75 : decode cX5_clashesWith 75 = .ok (.getfield 38, 3) := by decide +kernel
theorem dX5_clashesWith_78 : decode cX5_clashesWith 78 = .ok (.if_icmp .eq 7, 3) := by decide +kernel
theorem dX5_clashesWith_81 : decode cX5_clashesWith 81 = .ok (.iconst 1, 1) := by decide +kernel
theorem dX5_clashesWith_82 : decode cX5_clashesWith 82 = .ok (.goto 4, 3) := by decide +kernel
theorem dX5_clashesWith_85 : decode cX5_clashesWith 85 = .ok (.iconst 0, 1) := by decide +kernel
theorem dX5_clashesWith_86 : decode cX5_clashesWith 86 = .ok (.ireturn, 1) := by decide +kernel
theorem dX5_clashesWith_87 : decode cX5_clashesWith 87 = .ok (.aload_n 0, 1) := by decide +kernel
theorem dX5_clashesWith_88 : decode cX5_clashesWith 88 = .ok (.getfield 38, 3) := by decide +kernel
theorem dX5_clashesWith_91 : decode cX5_clashesWith 91 = .ok (.ifCond .le 23, 3) := by decide +kernel
theorem dX5_clashesWith_94 : decode cX5_clashesWith 94 = .ok (.aload_n 1, 1) := by decide +kernel
theorem dX5_clashesWith_95 : decode cX5_clashesWith 95 = .ok (.getfield 35, 3) := by decide +kernel
theorem dX5_clashesWith_98 : decode cX5_clashesWith 98 = .ok (.aload_n 0, 1) := by decide +kernel
theorem dX5_clashesWith_99 : decode cX5_clashesWith 99 = .ok (.getfield 38, 3) := by decide +kernel
theorem dX5_clashesWith_102 : decode cX5_clashesWith 102 = .ok (.isub, 1) := by decide +kernel
theorem dX5_clashesWith_103 : decode cX5_clashesWith 103 = .ok (.invokestatic 71, 3) := by decide +kernel
theorem dX5_clashesWith_106 : decode cX5_clashesWith 106 = .ok (.iconst 1, 1) := by decide +kernel
theorem dX5_clashesWith_107 : decode cX5_clashesWith 107 = .ok (.if_icmp .le 7, 3) := by decide +kernel
theorem dX5_clashesWith_110 : decode cX5_clashesWith 110 = .ok (.iconst 1, 1) := by decide +kernel
theorem dX5_clashesWith_111 : decode cX5_clashesWith 111 = .ok (.goto 4, 3) := by decide +kernel
theorem dX5_clashesWith_114 : decode cX5_clashesWith 114 = .ok (.iconst 0, 1) := by decide +kernel
theorem dX5_clashesWith_115 : decode cX5_clashesWith 115 = .ok (.ireturn, 1) := by decide +kernel
theorem dX5_clashesWith_116 : decode cX5_clashesWith 116 = .ok (.iconst 0, 1) := by decide +kernel
theorem dX5_clashesWith_117 : decode cX5_clashesWith 117 = .ok (.ireturn, 1) := by decide +kernel
theorem dX5_partsDiffer_0 : decode cX5_partsDiffer 0 = .ok (.aload_n 0, 1) := by decide +kernel
theorem dX5_partsDiffer_1 : decode cX5_partsDiffer 1 = .ok (.getfield 35, 3) := by decide +kernel
theorem dX5_partsDiffer_4 : decode cX5_partsDiffer 4 = .ok (.iconst 1, 1) := by decide +kernel
theorem dX5_partsDiffer_5 : decode cX5_partsDiffer 5 = .ok (.isub, 1) := by decide +kernel
theorem dX5_partsDiffer_6 : decode cX5_partsDiffer 6 = .ok (.aload_n 0, 1) := by decide +kernel
theorem dX5_partsDiffer_7 : decode cX5_partsDiffer 7 = .ok (.getfield 38, 3) := by decide +kernel
theorem dX5_partsDiffer_10 : decode cX5_partsDiffer 10 = .ok (.isub, 1) := by decide +kernel
theorem dX5_partsDiffer_11 : decode cX5_partsDiffer 11 = .ok (.ireturn, 1) := by decide +kernel
theorem dX5_codeLength_0 : decode cX5_codeLength 0 = .ok (.aload_n 0, 1) := by decide +kernel
theorem dX5_codeLength_1 : decode cX5_codeLength 1 = .ok (.getfield 32, 3) := by decide +kernel
theorem dX5_codeLength_4 : decode cX5_codeLength 4 = .ok (.aload_n 0, 1) := by decide +kernel
theorem dX5_codeLength_5 : decode cX5_codeLength 5 = .ok (.getfield 44, 3) := by decide +kernel
theorem dX5_codeLength_8 : decode cX5_codeLength 8 = .ok (.iadd, 1) := by decide +kernel
theorem dX5_codeLength_9 : decode cX5_codeLength 9 = .ok (.ireturn, 1) := by decide +kernel
theorem dX5_partAt_0 : decode cX5_partAt 0 = .ok (.iload_n 1, 1) := by decide +kernel
theorem dX5_partAt_1 : decode cX5_partAt 1 = .ok (.ifCond .lt 25, 3) := by decide +kernel
theorem dX5_partAt_4 : decode cX5_partAt 4 = .ok (.iload_n 1, 1) := by decide +kernel
theorem dX5_partAt_5 : decode cX5_partAt 5 = .ok (.aload_n 0, 1) := by decide +kernel
theorem dX5_partAt_6 : decode cX5_partAt 6 = .ok (.getfield 29, 3) := by decide +kernel
theorem dX5_partAt_9 : decode cX5_partAt 9 = .ok (.if_icmp .ge 17, 3) := by decide +kernel
theorem dX5_partAt_12 : decode cX5_partAt 12 = .ok (.iload_n 1, 1) := by decide +kernel
theorem dX5_partAt_13 : decode cX5_partAt 13 = .ok (.iconst 3, 1) := by decide +kernel
theorem dX5_partAt_14 : decode cX5_partAt 14 = .ok (.if_icmp .ge 12, 3) := by decide +kernel
theorem dX5_partAt_17 : decode cX5_partAt 17 = .ok (.aload_n 0, 1) := by decide +kernel
theorem dX5_partAt_18 : decode cX5_partAt 18 = .ok (.getfield 15, 3) := by decide +kernel
theorem dX5_partAt_21 : decode cX5_partAt 21 = .ok (.iload_n 1, 1) := by decide +kernel
theorem dX5_partAt_22 : decode cX5_partAt 22 = .ok (.aaload, 1) := by decide +kernel
theorem dX5_partAt_23 : decode cX5_partAt 23 = .ok (.goto 4, 3) := by decide +kernel
theorem dX5_partAt_26 : decode cX5_partAt 26 = .ok (.aconst_null, 1) := by decide +kernel
theorem dX5_partAt_27 : decode cX5_partAt 27 = .ok (.areturn, 1) := by decide +kernel
theorem dX5_differsFrom_0 : decode cX5_differsFrom 0 = .ok (.aload_n 0, 1) := by decide +kernel
theorem dX5_differsFrom_1 : decode cX5_differsFrom 1 = .ok (.aload_n 1, 1) := by decide +kernel
theorem dX5_differsFrom_2 : decode cX5_differsFrom 2 = .ok (.iconst 0, 1) := by decide +kernel
theorem dX5_differsFrom_3 : decode cX5_differsFrom 3 = .ok (.invokestatic 77, 3) := by decide +kernel
theorem dX5_differsFrom_6 : decode cX5_differsFrom 6 = .ok (.ireturn, 1) := by decide +kernel
theorem dX5_distance_0 : decode cX5_distance 0 = .ok (.aload_n 0, 1) := by decide +kernel
theorem dX5_distance_1 : decode cX5_distance 1 = .ok (.ifnull 24, 3) := by decide +kernel
theorem dX5_distance_4 : decode cX5_distance 4 = .ok (.aload_n 1, 1) := by decide +kernel
theorem dX5_distance_5 : decode cX5_distance 5 = .ok (.ifnull 20, 3) := by decide +kernel
theorem dX5_distance_8 : decode cX5_distance 8 = .ok (.iload_n 2, 1) := by decide +kernel
theorem dX5_distance_9 : decode cX5_distance 9 = .ok (.bipush 8, 2) := by decide +kernel
theorem dX5_distance_11 : decode cX5_distance 11 = .ok (.if_icmp .gt 14, 3) := by decide +kernel
theorem dX5_distance_14 : decode cX5_distance 14 = .ok (.aload_n 0, 1) := by decide +kernel
theorem dX5_distance_15 : decode cX5_distance 15 = .ok (.getfield 26, 3) := by decide +kernel
theorem dX5_distance_18 : decode cX5_distance 18 = .ok (.aload_n 1, 1) := by decide +kernel
theorem dX5_distance_19 : decode cX5_distance 19 = .ok (.getfield 26, 3) := by decide +kernel
theorem dX5_distance_22 : decode cX5_distance 22 = .ok (.if_icmp .eq 6, 3) := by decide +kernel
theorem dX5_distance_25 : decode cX5_distance 25 = .ok (.bipush 100, 2) := by decide +kernel
theorem dX5_distance_27 : decode cX5_distance 27 = .ok (.ireturn, 1) := by decide +kernel
theorem dX5_distance_28 : decode cX5_distance 28 = .ok (.iconst 0, 1) := by decide +kernel
theorem dX5_distance_29 : decode cX5_distance 29 = .ok (.istore_n 3, 1) := by decide +kernel
theorem dX5_distance_30 : decode cX5_distance 30 = .ok (.iconst 0, 1) := by decide +kernel
theorem dX5_distance_31 : decode cX5_distance 31 = .ok (.istore 4, 2) := by decide +kernel
theorem dX5_distance_33 : decode cX5_distance 33 = .ok (.iload 4, 2) := by decide +kernel
theorem dX5_distance_35 : decode cX5_distance 35 = .ok (.aload_n 0, 1) := by decide +kernel
theorem dX5_distance_36 : decode cX5_distance 36 = .ok (.getfield 29, 3) := by decide +kernel
theorem dX5_distance_39 : decode cX5_distance 39 = .ok (.if_icmp .ge 71, 3) := by decide +kernel
theorem dX5_distance_42 : decode cX5_distance 42 = .ok (.iload 4, 2) := by decide +kernel
theorem dX5_distance_44 : decode cX5_distance 44 = .ok (.iconst 3, 1) := by decide +kernel
theorem dX5_distance_45 : decode cX5_distance 45 = .ok (.if_icmp .ge 65, 3) := by decide +kernel
theorem dX5_distance_48 : decode cX5_distance 48 = .ok (.aload_n 0, 1) := by decide +kernel
theorem dX5_distance_49 : decode cX5_distance 49 = .ok (.getfield 15, 3) := by decide +kernel
theorem dX5_distance_52 : decode cX5_distance 52 = .ok (.iload 4, 2) := by decide +kernel
theorem dX5_distance_54 : decode cX5_distance 54 = .ok (.aaload, 1) := by decide +kernel
theorem dX5_distance_55 : decode cX5_distance 55 = .ok (.ifnull 29, 3) := by decide +kernel
theorem dX5_distance_58 : decode cX5_distance 58 = .ok (.iload_n 3, 1) := by decide +kernel
theorem dX5_distance_59 : decode cX5_distance 59 = .ok (.aload_n 0, 1) := by decide +kernel
theorem dX5_distance_60 : decode cX5_distance 60 = .ok (.getfield 15, 3) := by decide +kernel
theorem dX5_distance_63 : decode cX5_distance 63 = .ok (.iload 4, 2) := by decide +kernel
theorem dX5_distance_65 : decode cX5_distance 65 = .ok (.aaload, 1) := by decide +kernel
theorem dX5_distance_66 : decode cX5_distance 66 = .ok (.aload_n 1, 1) := by decide +kernel
theorem dX5_distance_67 : decode cX5_distance 67 = .ok (.getfield 15, 3) := by decide +kernel
theorem dX5_distance_70 : decode cX5_distance 70 = .ok (.iload 4, 2) := by decide +kernel
theorem dX5_distance_72 : decode cX5_distance 72 = .ok (.aaload, 1) := by decide +kernel
theorem dX5_distance_73 : decode cX5_distance 73 = .ok (.iload_n 2, 1) := by decide +kernel
theorem dX5_distance_74 : decode cX5_distance 74 = .ok (.iconst 1, 1) := by decide +kernel
theorem dX5_distance_75 : decode cX5_distance 75 = .ok (.iadd, 1) := by decide +kernel
theorem dX5_distance_76 : decode cX5_distance 76 = .ok (.invokestatic 77, 3) := by decide +kernel
theorem dX5_distance_79 : decode cX5_distance 79 = .ok (.iadd, 1) := by decide +kernel
theorem dX5_distance_80 : decode cX5_distance 80 = .ok (.istore_n 3, 1) := by decide +kernel
theorem dX5_distance_81 : decode cX5_distance 81 = .ok (.goto 23, 3) := by decide +kernel
theorem dX5_distance_84 : decode cX5_distance 84 = .ok (.aload_n 0, 1) := by decide +kernel
theorem dX5_distance_85 : decode cX5_distance 85 = .ok (.getfield 9, 3) := by decide +kernel
theorem dX5_distance_88 : decode cX5_distance 88 = .ok (.iload 4, 2) := by decide +kernel
theorem dX5_distance_90 : decode cX5_distance 90 = .ok (.iaload, 1) := by decide +kernel
theorem dX5_distance_91 : decode cX5_distance 91 = .ok (.aload_n 1, 1) := by decide +kernel
theorem dX5_distance_92 : decode cX5_distance 92 = .ok (.getfield 9, 3) := by decide +kernel
theorem dX5_distance_95 : decode cX5_distance 95 = .ok (.iload 4, 2) := by decide +kernel
theorem dX5_distance_97 : decode cX5_distance 97 = .ok (.iaload, 1) := by decide +kernel
theorem dX5_distance_98 : decode cX5_distance 98 = .ok (.if_icmp .eq 6, 3) := by decide +kernel
theorem dX5_distance_101 : decode cX5_distance 101 = .ok (.iinc 3 1, 3) := by decide +kernel
theorem dX5_distance_104 : decode cX5_distance 104 = .ok (.iinc 4 1, 3) := by decide +kernel
theorem dX5_distance_107 : decode cX5_distance 107 = .ok (.goto (-74), 3) := by decide +kernel
theorem dX5_distance_110 : decode cX5_distance 110 = .ok (.iload_n 3, 1) := by decide +kernel
theorem dX5_distance_111 : decode cX5_distance 111 = .ok (.ireturn, 1) := by decide +kernel
theorem dX6_init_0 : decode cX6_init 0 = .ok (.aload_n 0, 1) := by decide +kernel
theorem dX6_init_1 : decode cX6_init 1 = .ok (.invokespecial 1, 3) := by decide +kernel
theorem dX6_init_4 : decode cX6_init 4 = .ok (.aload_n 0, 1) := by decide +kernel
theorem dX6_init_5 : decode cX6_init 5 = .ok (.new 7, 3) := by decide +kernel
theorem dX6_init_8 : decode cX6_init 8 = .ok (.dup, 1) := by decide +kernel
theorem dX6_init_9 : decode cX6_init 9 = .ok (.invokespecial 9, 3) := by decide +kernel
theorem dX6_init_12 : decode cX6_init 12 = .ok (.putfield 10, 3) := by decide +kernel
theorem dX6_init_15 : decode cX6_init 15 = .ok (.aload_n 0, 1) := by decide +kernel
theorem dX6_init_16 : decode cX6_init 16 = .ok (.new 16, 3) := by decide +kernel
theorem dX6_init_19 : decode cX6_init 19 = .ok (.dup, 1) := by decide +kernel
theorem dX6_init_20 : decode cX6_init 20 = .ok (.aload_n 0, 1) := by decide +kernel
theorem dX6_init_21 : decode cX6_init 21 = .ok (.getfield 10, 3) := by decide +kernel
theorem dX6_init_24 : decode cX6_init 24 = .ok (.invokespecial 18, 3) := by decide +kernel
theorem dX6_init_27 : decode cX6_init 27 = .ok (.putfield 21, 3) := by decide +kernel
theorem dX6_init_30 : decode cX6_init 30 = .ok (.aload_n 0, 1) := by decide +kernel
theorem dX6_init_31 : decode cX6_init 31 = .ok (.new 25, 3) := by decide +kernel
theorem dX6_init_34 : decode cX6_init 34 = .ok (.dup, 1) := by decide +kernel
theorem dX6_init_35 : decode cX6_init 35 = .ok (.aload_n 0, 1) := by decide +kernel
theorem dX6_init_36 : decode cX6_init 36 = .ok (.getfield 10, 3) := by decide +kernel
theorem dX6_init_39 : decode cX6_init 39 = .ok (.invokespecial 27, 3) := by decide +kernel
theorem dX6_init_42 : decode cX6_init 42 = .ok (.putfield 28, 3) := by decide +kernel
theorem dX6_init_45 : decode cX6_init 45 = .ok (.aload_n 0, 1) := by decide +kernel
theorem dX6_init_46 : decode cX6_init 46 = .ok (.new 32, 3) := by decide +kernel
theorem dX6_init_49 : decode cX6_init 49 = .ok (.dup, 1) := by decide +kernel
theorem dX6_init_50 : decode cX6_init 50 = .ok (.invokespecial 34, 3) := by decide +kernel
theorem dX6_init_53 : decode cX6_init 53 = .ok (.putfield 35, 3) := by decide +kernel
theorem dX6_init_56 : decode cX6_init 56 = .ok (.aload_n 0, 1) := by decide +kernel
theorem dX6_init_57 : decode cX6_init 57 = .ok (.new 39, 3) := by decide +kernel
theorem dX6_init_60 : decode cX6_init 60 = .ok (.dup, 1) := by decide +kernel
theorem dX6_init_61 : decode cX6_init 61 = .ok (.invokespecial 41, 3) := by decide +kernel
theorem dX6_init_64 : decode cX6_init 64 = .ok (.putfield 42, 3) := by decide +kernel
theorem dX6_init_67 : decode cX6_init 67 = .ok (.aload_n 0, 1) := by decide +kernel
theorem dX6_init_68 : decode cX6_init 68 = .ok (.aconst_null, 1) := by decide +kernel
theorem dX6_init_69 : decode cX6_init 69 = .ok (.putfield 46, 3) := by decide +kernel
theorem dX6_init_72 : decode cX6_init 72 = .ok (.return_, 1) := by decide +kernel
theorem dX6_setRange_0 : decode cX6_setRange 0 = .ok (.iload_n 1, 1) := by decide +kernel
theorem dX6_setRange_1 : decode cX6_setRange 1 = .ok (.ifCond .lt 13, 3) := by decide +kernel
theorem dX6_setRange_4 : decode cX6_setRange 4 = .ok (.iload_n 2, 1) := by decide +kernel
theorem dX6_setRange_5 : decode cX6_setRange 5 = .ok (.iconst 5, 1) := by decide +kernel
theorem dX6_setRange_6 : decode cX6_setRange 6 = .ok (.if_icmp .gt 8, 3) := by decide +kernel
theorem dX6_setRange_9 : decode cX6_setRange 9 = .ok (.iload_n 1, 1) := by decide +kernel
theorem dX6_setRange_10 : decode cX6_setRange 10 = .ok (.iload_n 2, 1) := by decide +kernel
theorem dX6_setRange_11 : decode cX6_setRange 11 = .ok (.if_icmp .le 13, 3) := by decide +kernel
theorem dX6_setRange_14 : decode cX6_setRange 14 = .ok (.new 50, 3) := by decide +kernel
theorem dX6_setRange_17 : decode cX6_setRange 17 = .ok (.dup, 1) := by decide +kernel
theorem dX6_setRange_18 : decode cX6_setRange 18 = .ok (.ldc 52, 2) := by decide +kernel
theorem dX6_setRange_20 : decode cX6_setRange 20 = .ok (.invokespecial 54, 3) := by decide +kernel
theorem dX6_setRange_23 : decode cX6_setRange 23 = .ok (.athrow, 1) := by decide +kernel
theorem dX6_setRange_24 : decode cX6_setRange 24 = .ok (.iload_n 1, 1) := by decide +kernel
theorem dX6_setRange_25 : decode cX6_setRange 25 = .ok (.aload_n 0, 1) := by decide +kernel
theorem dX6_setRange_26 : decode cX6_setRange 26 = .ok (.getfield 10, 3) := by decide +kernel
theorem dX6_setRange_29 : decode cX6_setRange 29 = .ok (.getfield 57, 3) := by decide +kernel
theorem dX6_setRange_32 : decode cX6_setRange 32 = .ok (.if_icmp .ne 14, 3) := by decide +kernel
theorem dX6_setRange_35 : decode cX6_setRange 35 = .ok (.iload_n 2, 1) := by decide +kernel
theorem dX6_setRange_36 : decode cX6_setRange 36 = .ok (.aload_n 0, 1) := by decide +kernel
theorem dX6_setRange_37 : decode cX6_setRange 37 = .ok (.getfield 10, 3) := by decide +kernel
theorem dX6_setRange_40 : decode cX6_setRange 40 = .ok (.getfield 61, 3) := by decide +kernel
theorem dX6_setRange_43 : decode cX6_setRange 43 = .ok (.if_icmp .eq 7, 3) := by decide +kernel
theorem dX6_setRange_46 : decode cX6_setRange 46 = .ok (.iconst 1, 1) := by decide +kernel
theorem dX6_setRange_47 : decode cX6_setRange 47 = .ok (.goto 4, 3) := by decide +kernel
theorem dX6_setRange_50 : decode cX6_setRange 50 = .ok (.iconst 0, 1) := by decide +kernel
theorem dX6_setRange_51 : decode cX6_setRange 51 = .ok (.istore_n 3, 1) := by decide +kernel
theorem dX6_setRange_52 : decode cX6_setRange 52 = .ok (.aload_n 0, 1) := by decide +kernel
theorem dX6_setRange_53 : decode cX6_setRange 53 = .ok (.getfield 10, 3) := by decide +kernel
theorem dX6_setRange_56 : decode cX6_setRange 56 = .ok (.iload_n 1, 1) := by decide +kernel
theorem dX6_setRange_57 : decode cX6_setRange 57 = .ok (.putfield 57, 3) := by decide +kernel
theorem dX6_setRange_60 : decode cX6_setRange 60 = .ok (.aload_n 0, 1) := by decide +kernel
theorem dX6_setRange_61 : decode cX6_setRange 61 = .ok (.getfield 10, 3) := by decide +kernel
theorem dX6_setRange_64 : decode cX6_setRange 64 = .ok (.iload_n 2, 1) := by decide +kernel
theorem dX6_setRange_65 : decode cX6_setRange 65 = .ok (.putfield 61, 3) := by decide +kernel
theorem dX6_setRange_68 : decode cX6_setRange 68 = .ok (.aload_n 0, 1) := by decide +kernel
theorem dX6_setRange_69 : decode cX6_setRange 69 = .ok (.invokevirtual 64, 3) := by decide +kernel
theorem dX6_setRange_72 : decode cX6_setRange 72 = .ok (.iload_n 3, 1) := by decide +kernel
theorem dX6_setRange_73 : decode cX6_setRange 73 = .ok (.ireturn, 1) := by decide +kernel
theorem dX6_addType_0 : decode cX6_addType 0 = .ok (.aload_n 0, 1) := by decide +kernel
theorem dX6_addType_1 : decode cX6_addType 1 = .ok (.getfield 10, 3) := by decide +kernel
theorem dX6_addType_4 : decode cX6_addType 4 = .ok (.getfield 67, 3) := by decide +kernel
theorem dX6_addType_7 : decode cX6_addType 7 = .ok (.iconst 4, 1) := by decide +kernel
theorem dX6_addType_8 : decode cX6_addType 8 = .ok (.if_icmp .lt 13, 3) := by decide +kernel
theorem dX6_addType_11 : decode cX6_addType 11 = .ok (.new 70, 3) := by decide +kernel
theorem dX6_addType_14 : decode cX6_addType 14 = .ok (.dup, 1) := by decide +kernel
theorem dX6_addType_15 : decode cX6_addType 15 = .ok (.ldc 72, 2) := by decide +kernel
theorem dX6_addType_17 : decode cX6_addType 17 = .ok (.invokespecial 74, 3) := by decide +kernel
theorem dX6_addType_20 : decode cX6_addType 20 = .ok (.athrow, 1) := by decide +kernel
theorem dX6_addType_21 : decode cX6_addType 21 = .ok (.aload_n 0, 1) := by decide +kernel
theorem dX6_addType_22 : decode cX6_addType 22 = .ok (.getfield 10, 3) := by decide +kernel
theorem dX6_addType_25 : decode cX6_addType 25 = .ok (.dup, 1) := by decide +kernel
theorem dX6_addType_26 : decode cX6_addType 26 = .ok (.getfield 67, 3) := by decide +kernel
theorem dX6_addType_29 : decode cX6_addType 29 = .ok (.iconst 1, 1) := by decide +kernel
theorem dX6_addType_30 : decode cX6_addType 30 = .ok (.iadd, 1) := by decide +kernel
theorem dX6_addType_31 : decode cX6_addType 31 = .ok (.putfield 67, 3) := by decide +kernel
theorem dX6_addType_34 : decode cX6_addType 34 = .ok (.aload_n 0, 1) := by decide +kernel
theorem dX6_addType_35 : decode cX6_addType 35 = .ok (.invokevirtual 64, 3) := by decide +kernel
theorem dX6_addType_38 : decode cX6_addType 38 = .ok (.aload_n 0, 1) := by decide +kernel
theorem dX6_addType_39 : decode cX6_addType 39 = .ok (.getfield 10, 3) := by decide +kernel
theorem dX6_addType_42 : decode cX6_addType 42 = .ok (.getfield 67, 3) := by decide +kernel
theorem dX6_addType_45 : decode cX6_addType 45 = .ok (.iconst 1, 1) := by decide +kernel
theorem dX6_addType_46 : decode cX6_addType 46 = .ok (.isub, 1) := by decide +kernel
theorem dX6_addType_47 : decode cX6_addType 47 = .ok (.ireturn, 1) := by decide +kernel
theorem dX6_addConstructor_0 : decode cX6_addConstructor 0 = .ok (.aload_n 0, 1) := by decide +kernel
theorem dX6_addConstructor_1 : decode cX6_addConstructor 1 = .ok (.iload_n 1, 1) := by decide +kernel
theorem dX6_addConstructor_2 : decode cX6_addConstructor 2 = .ok (.invokevirtual 75, 3) := by decide +kernel
theorem dX6_addConstructor_5 : decode cX6_addConstructor 5 = .ok (.aload_n 0, 1) := by decide +kernel
theorem dX6_addConstructor_6 : decode cX6_addConstructor 6 = .ok (.getfield 10, 3) := by decide +kernel
theorem dX6_addConstructor_9 : decode cX6_addConstructor 9 = .ok (.iload_n 2, 1) := by decide +kernel
theorem dX6_addConstructor_10 : decode cX6_addConstructor 10 = .ok (.iload_n 3, 1) := by decide +kernel
theorem dX6_addConstructor_11 : decode cX6_addConstructor 11 = .ok (.iload 4, 2) := by decide +kernel
theorem dX6_addConstructor_13 : decode cX6_addConstructor 13 = .ok (.invokevirtual 79, 3) := by decide +kernel
theorem dX6_addConstructor_16 : decode cX6_addConstructor 16 = .ok (.ifCond .ne 13, 3) := by decide +kernel
theorem dX6_addConstructor_19 : decode cX6_addConstructor 19 = .ok (.new 50, 3) := by decide +kernel
theorem dX6_addConstructor_22 : decode cX6_addConstructor 22 = .ok (.dup, 1) := by decide +kernel
theorem dX6_addConstructor_23 : decode cX6_addConstructor 23 = .ok (.ldc 83, 2) := by decide +kernel
theorem dX6_addConstructor_25 : decode cX6_addConstructor 25 = .ok (.invokespecial 54, 3) := by decide +kernel
theorem dX6_addConstructor_28 : decode cX6_addConstructor 28 = .ok (.athrow, 1) := by decide +kernel
theorem dX6_addConstructor_29 : decode cX6_addConstructor 29 = .ok (.iload 5, 2) := by decide +kernel
theorem dX6_addConstructor_31 : decode cX6_addConstructor 31 = .ok (.ifCond .lt 9, 3) := by decide +kernel
theorem dX6_addConstructor_34 : decode cX6_addConstructor 34 = .ok (.iload 5, 2) := by decide +kernel
theorem dX6_addConstructor_36 : decode cX6_addConstructor 36 = .ok (.iconst 5, 1) := by decide +kernel
theorem dX6_addConstructor_37 : decode cX6_addConstructor 37 = .ok (.if_icmp .le 13, 3) := by decide +kernel
theorem dX6_addConstructor_40 : decode cX6_addConstructor 40 = .ok (.new 50, 3) := by decide +kernel
theorem dX6_addConstructor_43 : decode cX6_addConstructor 43 = .ok (.dup, 1) := by decide +kernel
theorem dX6_addConstructor_44 : decode cX6_addConstructor 44 = .ok (.ldc 85, 2) := by decide +kernel
theorem dX6_addConstructor_46 : decode cX6_addConstructor 46 = .ok (.invokespecial 54, 3) := by decide +kernel
theorem dX6_addConstructor_49 : decode cX6_addConstructor 49 = .ok (.athrow, 1) := by decide +kernel
theorem dX6_addConstructor_50 : decode cX6_addConstructor 50 = .ok (.aload_n 0, 1) := by decide +kernel
theorem dX6_addConstructor_51 : decode cX6_addConstructor 51 = .ok (.getfield 10, 3) := by decide +kernel
theorem dX6_addConstructor_54 : decode cX6_addConstructor 54 = .ok (.getfield 87, 3) := by decide +kernel
theorem dX6_addConstructor_57 : decode cX6_addConstructor 57 = .ok (.bipush 6, 2) := by decide +kernel
theorem dX6_addConstructor_59 : decode cX6_addConstructor 59 = .ok (.if_icmp .lt 13, 3) := by decide +kernel
theorem dX6_addConstructor_62 : decode cX6_addConstructor 62 = .ok (.new 70, 3) := by decide +kernel
theorem dX6_addConstructor_65 : decode cX6_addConstructor 65 = .ok (.dup, 1) := by decide +kernel
theorem dX6_addConstructor_66 : decode cX6_addConstructor 66 = .ok (.ldc 90, 2) := by decide +kernel
theorem dX6_addConstructor_68 : decode cX6_addConstructor 68 = .ok (.invokespecial 74, 3) := by decide +kernel
theorem dX6_addConstructor_71 : decode cX6_addConstructor 71 = .ok (.athrow, 1) := by decide +kernel
theorem dX6_addConstructor_72 : decode cX6_addConstructor 72 = .ok (.aload_n 0, 1) := by decide +kernel
theorem dX6_addConstructor_73 : decode cX6_addConstructor 73 = .ok (.getfield 10, 3) := by decide +kernel
theorem dX6_addConstructor_76 : decode cX6_addConstructor 76 = .ok (.iload_n 1, 1) := by decide +kernel
theorem dX6_addConstructor_77 : decode cX6_addConstructor 77 = .ok (.iload_n 2, 1) := by decide +kernel
theorem dX6_addConstructor_78 : decode cX6_addConstructor 78 = .ok (.iload_n 3, 1) := by decide +kernel
theorem dX6_addConstructor_79 : decode cX6_addConstructor 79 = .ok (.iload 4, 2) := by decide +kernel
theorem dX6_addConstructor_81 : decode cX6_addConstructor 81 = .ok (.iload 5, 2) := by decide +kernel
theorem dX6_addConstructor_83 : decode cX6_addConstructor 83 = .ok (.invokevirtual 92, 3) := by decide +kernel
theorem dX6_addConstructor_86 : decode cX6_addConstructor 86 = .ok (.aload_n 0, 1) := by decide +kernel
theorem dX6_addConstructor_87 : decode cX6_addConstructor 87 = .ok (.invokevirtual 64, 3) := by decide +kernel
theorem dX6_addConstructor_90 : decode cX6_addConstructor 90 = .ok (.aload_n 0, 1) := by decide +kernel
theorem dX6_addConstructor_91 : decode cX6_addConstructor 91 = .ok (.getfield 10, 3) := by decide +kernel
theorem dX6_addConstructor_94 : decode cX6_addConstructor 94 = .ok (.getfield 87, 3) := by decide +kernel
theorem dX6_addConstructor_97 : decode cX6_addConstructor 97 = .ok (.iconst 1, 1) := by decide +kernel
theorem dX6_addConstructor_98 : decode cX6_addConstructor 98 = .ok (.isub, 1) := by decide +kernel
theorem dX6_addConstructor_99 : decode cX6_addConstructor 99 = .ok (.ireturn, 1) := by decide +kernel
theorem dX6_typeCount_0 : decode cX6_typeCount 0 = .ok (.aload_n 0, 1) := by decide +kernel
theorem dX6_typeCount_1 : decode cX6_typeCount 1 = .ok (.getfield 10, 3) := by decide +kernel
theorem dX6_typeCount_4 : decode cX6_typeCount 4 = .ok (.getfield 67, 3) := by decide +kernel
theorem dX6_typeCount_7 : decode cX6_typeCount 7 = .ok (.ireturn, 1) := by decide +kernel
theorem dX6_horizon_0 : decode cX6_horizon 0 = .ok (.aload_n 0, 1) := by decide +kernel
theorem dX6_horizon_1 : decode cX6_horizon 1 = .ok (.getfield 21, 3) := by decide +kernel
theorem dX6_horizon_4 : decode cX6_horizon 4 = .ok (.invokevirtual 96, 3) := by decide +kernel
theorem dX6_horizon_7 : decode cX6_horizon 7 = .ok (.aload_n 0, 1) := by decide +kernel
theorem dX6_horizon_8 : decode cX6_horizon 8 = .ok (.getfield 21, 3) := by decide +kernel
theorem dX6_horizon_11 : decode cX6_horizon 11 = .ok (.getfield 99, 3) := by decide +kernel
theorem dX6_horizon_14 : decode cX6_horizon 14 = .ok (.ireturn, 1) := by decide +kernel
theorem dX6_count_0 : decode cX6_count 0 = .ok (.aload_n 0, 1) := by decide +kernel
theorem dX6_count_1 : decode cX6_count 1 = .ok (.iload_n 1, 1) := by decide +kernel
theorem dX6_count_2 : decode cX6_count 2 = .ok (.invokevirtual 75, 3) := by decide +kernel
theorem dX6_count_5 : decode cX6_count 5 = .ok (.aload_n 0, 1) := by decide +kernel
theorem dX6_count_6 : decode cX6_count 6 = .ok (.iload_n 2, 1) := by decide +kernel
theorem dX6_count_7 : decode cX6_count 7 = .ok (.invokevirtual 102, 3) := by decide +kernel
theorem dX6_count_10 : decode cX6_count 10 = .ok (.aload_n 0, 1) := by decide +kernel
theorem dX6_count_11 : decode cX6_count 11 = .ok (.iload_n 2, 1) := by decide +kernel
theorem dX6_count_12 : decode cX6_count 12 = .ok (.invokevirtual 105, 3) := by decide +kernel
theorem dX6_count_15 : decode cX6_count 15 = .ok (.aload_n 0, 1) := by decide +kernel
theorem dX6_count_16 : decode cX6_count 16 = .ok (.getfield 21, 3) := by decide +kernel
theorem dX6_count_19 : decode cX6_count 19 = .ok (.iload_n 1, 1) := by decide +kernel
theorem dX6_count_20 : decode cX6_count 20 = .ok (.iload_n 2, 1) := by decide +kernel
theorem dX6_count_21 : decode cX6_count 21 = .ok (.invokevirtual 108, 3) := by decide +kernel
theorem dX6_count_24 : decode cX6_count 24 = .ok (.aload_n 0, 1) := by decide +kernel
theorem dX6_count_25 : decode cX6_count 25 = .ok (.getfield 21, 3) := by decide +kernel
theorem dX6_count_28 : decode cX6_count 28 = .ok (.iload_n 1, 1) := by decide +kernel
theorem dX6_count_29 : decode cX6_count 29 = .ok (.iload_n 2, 1) := by decide +kernel
theorem dX6_count_30 : decode cX6_count 30 = .ok (.iconst 1, 1) := by decide +kernel
theorem dX6_count_31 : decode cX6_count 31 = .ok (.isub, 1) := by decide +kernel
theorem dX6_count_32 : decode cX6_count 32 = .ok (.invokevirtual 108, 3) := by decide +kernel
theorem dX6_count_35 : decode cX6_count 35 = .ok (.isub, 1) := by decide +kernel
theorem dX6_count_36 : decode cX6_count 36 = .ok (.ireturn, 1) := by decide +kernel
theorem dX6_total_0 : decode cX6_total 0 = .ok (.aload_n 0, 1) := by decide +kernel
theorem dX6_total_1 : decode cX6_total 1 = .ok (.iload_n 1, 1) := by decide +kernel
theorem dX6_total_2 : decode cX6_total 2 = .ok (.invokevirtual 75, 3) := by decide +kernel
theorem dX6_total_5 : decode cX6_total 5 = .ok (.aload_n 0, 1) := by decide +kernel
theorem dX6_total_6 : decode cX6_total 6 = .ok (.iload_n 2, 1) := by decide +kernel
theorem dX6_total_7 : decode cX6_total 7 = .ok (.invokevirtual 102, 3) := by decide +kernel
theorem dX6_total_10 : decode cX6_total 10 = .ok (.aload_n 0, 1) := by decide +kernel
theorem dX6_total_11 : decode cX6_total 11 = .ok (.iload_n 2, 1) := by decide +kernel
theorem dX6_total_12 : decode cX6_total 12 = .ok (.invokevirtual 105, 3) := by decide +kernel
theorem dX6_total_15 : decode cX6_total 15 = .ok (.aload_n 0, 1) := by decide +kernel
theorem dX6_total_16 : decode cX6_total 16 = .ok (.getfield 21, 3) := by decide +kernel
theorem dX6_total_19 : decode cX6_total 19 = .ok (.iload_n 1, 1) := by decide +kernel
theorem dX6_total_20 : decode cX6_total 20 = .ok (.iload_n 2, 1) := by decide +kernel
theorem dX6_total_21 : decode cX6_total 21 = .ok (.invokevirtual 108, 3) := by decide +kernel
theorem dX6_total_24 : decode cX6_total 24 = .ok (.ireturn, 1) := by decide +kernel
theorem dX6_firstAgainst_0 : decode cX6_firstAgainst 0 = .ok (.aload_n 0, 1) := by decide +kernel
theorem dX6_firstAgainst_1 : decode cX6_firstAgainst 1 = .ok (.iload_n 1, 1) := by decide +kernel
theorem dX6_firstAgainst_2 : decode cX6_firstAgainst 2 = .ok (.invokevirtual 75, 3) := by decide +kernel
theorem dX6_firstAgainst_5 : decode cX6_firstAgainst 5 = .ok (.aload_n 0, 1) := by decide +kernel
theorem dX6_firstAgainst_6 : decode cX6_firstAgainst 6 = .ok (.iload_n 2, 1) := by decide +kernel
theorem dX6_firstAgainst_7 : decode cX6_firstAgainst 7 = .ok (.invokevirtual 112, 3) := by decide +kernel
theorem dX6_firstAgainst_10 : decode cX6_firstAgainst 10 = .ok (.aload_n 0, 1) := by decide +kernel
theorem dX6_firstAgainst_11 : decode cX6_firstAgainst 11 = .ok (.iload_n 3, 1) := by decide +kernel
theorem dX6_firstAgainst_12 : decode cX6_firstAgainst 12 = .ok (.invokevirtual 102, 3) := by decide +kernel
theorem dX6_firstAgainst_15 : decode cX6_firstAgainst 15 = .ok (.aload_n 0, 1) := by decide +kernel
theorem dX6_firstAgainst_16 : decode cX6_firstAgainst 16 = .ok (.iload_n 3, 1) := by decide +kernel
theorem dX6_firstAgainst_17 : decode cX6_firstAgainst 17 = .ok (.invokevirtual 105, 3) := by decide +kernel
theorem dX6_firstAgainst_20 : decode cX6_firstAgainst 20 = .ok (.aload_n 0, 1) := by decide +kernel
theorem dX6_firstAgainst_21 : decode cX6_firstAgainst 21 = .ok (.getfield 21, 3) := by decide +kernel
theorem dX6_firstAgainst_24 : decode cX6_firstAgainst 24 = .ok (.iload_n 1, 1) := by decide +kernel
theorem dX6_firstAgainst_25 : decode cX6_firstAgainst 25 = .ok (.iload_n 3, 1) := by decide +kernel
theorem dX6_firstAgainst_26 : decode cX6_firstAgainst 26 = .ok (.invokevirtual 108, 3) := by decide +kernel
theorem dX6_firstAgainst_29 : decode cX6_firstAgainst 29 = .ok (.istore 4, 2) := by decide +kernel
theorem dX6_firstAgainst_31 : decode cX6_firstAgainst 31 = .ok (.iconst 0, 1) := by decide +kernel
theorem dX6_firstAgainst_32 : decode cX6_firstAgainst 32 = .ok (.istore 5, 2) := by decide +kernel
theorem dX6_firstAgainst_34 : decode cX6_firstAgainst 34 = .ok (.iload 5, 2) := by decide +kernel
theorem dX6_firstAgainst_36 : decode cX6_firstAgainst 36 = .ok (.iload 4, 2) := by decide +kernel
theorem dX6_firstAgainst_38 : decode cX6_firstAgainst 38 = .ok (.if_icmp .ge 38, 3) := by decide +kernel
theorem dX6_firstAgainst_41 : decode cX6_firstAgainst 41 = .ok (.aload_n 0, 1) := by decide +kernel
theorem dX6_firstAgainst_42 : decode cX6_firstAgainst 42 = .ok (.getfield 21, 3) := by decide +kernel
theorem dX6_firstAgainst_45 : decode cX6_firstAgainst 45 = .ok (.iload_n 1, 1) := by decide +kernel
theorem dX6_firstAgainst_46 : decode cX6_firstAgainst 46 = .ok (.iload 5, 2) := by decide +kernel
theorem dX6_firstAgainst_48 : decode cX6_firstAgainst 48 = .ok (.invokevirtual 115, 3) := by decide +kernel
theorem dX6_firstAgainst_51 : decode cX6_firstAgainst 51 = .ok (.astore 6, 2) := by decide +kernel
theorem dX6_firstAgainst_53 : decode cX6_firstAgainst 53 = .ok (.aload 6, 2) := by decide +kernel
theorem dX6_firstAgainst_55 : decode cX6_firstAgainst 55 = .ok (.ifnull 15, 3) := by decide +kernel
theorem dX6_firstAgainst_58 : decode cX6_firstAgainst 58 = .ok (.aload 6, 2) := by decide +kernel
theorem dX6_firstAgainst_60 : decode cX6_firstAgainst 60 = .ok (.iload_n 2, 1) := by decide +kernel
theorem dX6_firstAgainst_61 : decode cX6_firstAgainst 61 = .ok (.invokevirtual 119, 3) := by decide +kernel
theorem dX6_firstAgainst_64 : decode cX6_firstAgainst 64 = .ok (.ifCond .ne 6, 3) := by decide +kernel
theorem dX6_firstAgainst_67 : decode cX6_firstAgainst 67 = .ok (.iload 5, 2) := by decide +kernel
theorem dX6_firstAgainst_69 : decode cX6_firstAgainst 69 = .ok (.ireturn, 1) := by decide +kernel
theorem dX6_firstAgainst_70 : decode cX6_firstAgainst 70 = .ok (.iinc 5 1, 3) := by decide +kernel
theorem dX6_firstAgainst_73 : decode cX6_firstAgainst 73 = .ok (.goto (-39), 3) := by decide +kernel
theorem dX6_firstAgainst_76 : decode cX6_firstAgainst 76 = .ok (.iconst (-1), 1) := by decide +kernel
theorem dX6_firstAgainst_77 : decode cX6_firstAgainst 77 = .ok (.ireturn, 1) := by decide +kernel
theorem dX6_select_0 : decode cX6_select 0 = .ok (.aload_n 0, 1) := by decide +kernel
theorem dX6_select_1 : decode cX6_select 1 = .ok (.iload_n 1, 1) := by decide +kernel
theorem dX6_select_2 : decode cX6_select 2 = .ok (.invokevirtual 75, 3) := by decide +kernel
theorem dX6_select_5 : decode cX6_select 5 = .ok (.aload_n 0, 1) := by decide +kernel
theorem dX6_select_6 : decode cX6_select 6 = .ok (.getfield 21, 3) := by decide +kernel
theorem dX6_select_9 : decode cX6_select 9 = .ok (.invokevirtual 96, 3) := by decide +kernel
theorem dX6_select_12 : decode cX6_select 12 = .ok (.aload_n 0, 1) := by decide +kernel
theorem dX6_select_13 : decode cX6_select 13 = .ok (.getfield 21, 3) := by decide +kernel
theorem dX6_select_16 : decode cX6_select 16 = .ok (.iload_n 1, 1) := by decide +kernel
theorem dX6_select_17 : decode cX6_select 17 = .ok (.iload_n 2, 1) := by decide +kernel
theorem dX6_select_18 : decode cX6_select 18 = .ok (.invokevirtual 115, 3) := by decide +kernel
theorem dX6_select_21 : decode cX6_select 21 = .ok (.astore_n 3, 1) := by decide +kernel
theorem dX6_select_22 : decode cX6_select 22 = .ok (.aload_n 3, 1) := by decide +kernel
theorem dX6_select_23 : decode cX6_select 23 = .ok (.ifnonnull 29, 3) := by decide +kernel
theorem dX6_select_26 : decode cX6_select 26 = .ok (.iload_n 2, 1) := by decide +kernel
theorem dX6_select_27 : decode cX6_select 27 = .ok (.ifCond .lt 15, 3) := by decide +kernel
theorem dX6_select_30 : decode cX6_select 30 = .ok (.aload_n 0, 1) := by decide +kernel
theorem dX6_select_31 : decode cX6_select 31 = .ok (.getfield 21, 3) := by decide +kernel
theorem dX6_select_34 : decode cX6_select 34 = .ok (.getfield 99, 3) := by decide +kernel
theorem dX6_select_37 : decode cX6_select 37 = .ok (.bipush 8, 2) := by decide +kernel
theorem dX6_select_39 : decode cX6_select 39 = .ok (.if_icmp .ne 13, 3) := by decide +kernel
theorem dX6_select_42 : decode cX6_select 42 = .ok (.new 125, 3) := by decide +kernel
theorem dX6_select_45 : decode cX6_select 45 = .ok (.dup, 1) := by decide +kernel
theorem dX6_select_46 : decode cX6_select 46 = .ok (.ldc 127, 2) := by decide +kernel
theorem dX6_select_48 : decode cX6_select 48 = .ok (.invokespecial 129, 3) := by decide +kernel
theorem dX6_select_51 : decode cX6_select 51 = .ok (.athrow, 1) := by decide +kernel
theorem dX6_select_52 : decode cX6_select 52 = .ok (.aload_n 3, 1) := by decide +kernel
theorem dX6_select_53 : decode cX6_select 53 = .ok (.ifnonnull 13, 3) := by decide +kernel
theorem dX6_select_56 : decode cX6_select 56 = .ok (.new 70, 3) := by decide +kernel
theorem dX6_select_59 : decode cX6_select 59 = .ok (.dup, 1) := by decide +kernel
theorem dX6_select_60 : decode cX6_select 60 = .ok (.ldc 130, 2) := by decide +kernel
theorem dX6_select_62 : decode cX6_select 62 = .ok (.invokespecial 74, 3) := by decide +kernel
theorem dX6_select_65 : decode cX6_select 65 = .ok (.athrow, 1) := by decide +kernel
theorem dX6_select_66 : decode cX6_select 66 = .ok (.aload_n 0, 1) := by decide +kernel
theorem dX6_select_67 : decode cX6_select 67 = .ok (.aload_n 3, 1) := by decide +kernel
theorem dX6_select_68 : decode cX6_select 68 = .ok (.putfield 46, 3) := by decide +kernel
theorem dX6_select_71 : decode cX6_select 71 = .ok (.aload_n 3, 1) := by decide +kernel
theorem dX6_select_72 : decode cX6_select 72 = .ok (.getfield 132, 3) := by decide +kernel
theorem dX6_select_75 : decode cX6_select 75 = .ok (.ireturn, 1) := by decide +kernel
theorem dX6_draw_0 : decode cX6_draw 0 = .ok (.aload_n 0, 1) := by decide +kernel
theorem dX6_draw_1 : decode cX6_draw 1 = .ok (.iload_n 1, 1) := by decide +kernel
theorem dX6_draw_2 : decode cX6_draw 2 = .ok (.invokevirtual 75, 3) := by decide +kernel
theorem dX6_draw_5 : decode cX6_draw 5 = .ok (.aload_n 0, 1) := by decide +kernel
theorem dX6_draw_6 : decode cX6_draw 6 = .ok (.iload_n 2, 1) := by decide +kernel
theorem dX6_draw_7 : decode cX6_draw 7 = .ok (.invokevirtual 102, 3) := by decide +kernel
theorem dX6_draw_10 : decode cX6_draw 10 = .ok (.aload_n 0, 1) := by decide +kernel
theorem dX6_draw_11 : decode cX6_draw 11 = .ok (.iload_n 2, 1) := by decide +kernel
theorem dX6_draw_12 : decode cX6_draw 12 = .ok (.invokevirtual 105, 3) := by decide +kernel
theorem dX6_draw_15 : decode cX6_draw 15 = .ok (.aload_n 0, 1) := by decide +kernel
theorem dX6_draw_16 : decode cX6_draw 16 = .ok (.getfield 21, 3) := by decide +kernel
theorem dX6_draw_19 : decode cX6_draw 19 = .ok (.iload_n 1, 1) := by decide +kernel
theorem dX6_draw_20 : decode cX6_draw 20 = .ok (.iload_n 2, 1) := by decide +kernel
theorem dX6_draw_21 : decode cX6_draw 21 = .ok (.iconst 1, 1) := by decide +kernel
theorem dX6_draw_22 : decode cX6_draw 22 = .ok (.isub, 1) := by decide +kernel
theorem dX6_draw_23 : decode cX6_draw 23 = .ok (.invokevirtual 108, 3) := by decide +kernel
theorem dX6_draw_26 : decode cX6_draw 26 = .ok (.istore 5, 2) := by decide +kernel
theorem dX6_draw_28 : decode cX6_draw 28 = .ok (.aload_n 0, 1) := by decide +kernel
theorem dX6_draw_29 : decode cX6_draw 29 = .ok (.getfield 21, 3) := by decide +kernel
theorem dX6_draw_32 : decode cX6_draw 32 = .ok (.iload_n 1, 1) := by decide +kernel
theorem dX6_draw_33 : decode cX6_draw 33 = .ok (.iload_n 2, 1) := by decide +kernel
theorem dX6_draw_34 : decode cX6_draw 34 = .ok (.invokevirtual 108, 3) := by decide +kernel
theorem dX6_draw_37 : decode cX6_draw 37 = .ok (.iload 5, 2) := by decide +kernel
theorem dX6_draw_39 : decode cX6_draw 39 = .ok (.isub, 1) := by decide +kernel
theorem dX6_draw_40 : decode cX6_draw 40 = .ok (.istore 6, 2) := by decide +kernel
theorem dX6_draw_42 : decode cX6_draw 42 = .ok (.iload 6, 2) := by decide +kernel
theorem dX6_draw_44 : decode cX6_draw 44 = .ok (.ifCond .gt 13, 3) := by decide +kernel
theorem dX6_draw_47 : decode cX6_draw 47 = .ok (.new 135, 3) := by decide +kernel
theorem dX6_draw_50 : decode cX6_draw 50 = .ok (.dup, 1) := by decide +kernel
theorem dX6_draw_51 : decode cX6_draw 51 = .ok (.ldc 137, 2) := by decide +kernel
theorem dX6_draw_53 : decode cX6_draw 53 = .ok (.invokespecial 139, 3) := by decide +kernel
theorem dX6_draw_56 : decode cX6_draw 56 = .ok (.athrow, 1) := by decide +kernel
theorem dX6_draw_57 : decode cX6_draw 57 = .ok (.lload_n 3, 1) := by decide +kernel
theorem dX6_draw_58 : decode cX6_draw 58 = .ok (.ldc2_w 140, 3) := by decide +kernel
theorem dX6_draw_61 : decode cX6_draw 61 = .ok (.lmul, 1) := by decide +kernel
theorem dX6_draw_62 : decode cX6_draw 62 = .ok (.ldc2_w 142, 3) := by decide +kernel
theorem dX6_draw_65 : decode cX6_draw 65 = .ok (.ladd, 1) := by decide +kernel
theorem dX6_draw_66 : decode cX6_draw 66 = .ok (.lstore 7, 2) := by decide +kernel
theorem dX6_draw_68 : decode cX6_draw 68 = .ok (.iload 5, 2) := by decide +kernel
theorem dX6_draw_70 : decode cX6_draw 70 = .ok (.lload 7, 2) := by decide +kernel
theorem dX6_draw_72 : decode cX6_draw 72 = .ok (.bipush 33, 2) := by decide +kernel
theorem dX6_draw_74 : decode cX6_draw 74 = .ok (.lushr, 1) := by decide +kernel
theorem dX6_draw_75 : decode cX6_draw 75 = .ok (.iload 6, 2) := by decide +kernel
theorem dX6_draw_77 : decode cX6_draw 77 = .ok (.i2l, 1) := by decide +kernel
theorem dX6_draw_78 : decode cX6_draw 78 = .ok (.lrem, 1) := by decide +kernel
theorem dX6_draw_79 : decode cX6_draw 79 = .ok (.l2i, 1) := by decide +kernel
theorem dX6_draw_80 : decode cX6_draw 80 = .ok (.iadd, 1) := by decide +kernel
theorem dX6_draw_81 : decode cX6_draw 81 = .ok (.istore 9, 2) := by decide +kernel
theorem dX6_draw_83 : decode cX6_draw 83 = .ok (.aload_n 0, 1) := by decide +kernel
theorem dX6_draw_84 : decode cX6_draw 84 = .ok (.aload_n 0, 1) := by decide +kernel
theorem dX6_draw_85 : decode cX6_draw 85 = .ok (.getfield 21, 3) := by decide +kernel
theorem dX6_draw_88 : decode cX6_draw 88 = .ok (.iload_n 1, 1) := by decide +kernel
theorem dX6_draw_89 : decode cX6_draw 89 = .ok (.iload 9, 2) := by decide +kernel
theorem dX6_draw_91 : decode cX6_draw 91 = .ok (.invokevirtual 115, 3) := by decide +kernel
theorem dX6_draw_94 : decode cX6_draw 94 = .ok (.putfield 46, 3) := by decide +kernel
theorem dX6_draw_97 : decode cX6_draw 97 = .ok (.iload 9, 2) := by decide +kernel
theorem dX6_draw_99 : decode cX6_draw 99 = .ok (.ireturn, 1) := by decide +kernel
theorem dX6_tell_0 : decode cX6_tell 0 = .ok (.iload_n 1, 1) := by decide +kernel
theorem dX6_tell_1 : decode cX6_tell 1 = .ok (.ifCond .lt 12, 3) := by decide +kernel
theorem dX6_tell_4 : decode cX6_tell 4 = .ok (.iload_n 1, 1) := by decide +kernel
theorem dX6_tell_5 : decode cX6_tell 5 = .ok (.iconst 5, 1) := by decide +kernel
theorem dX6_tell_6 : decode cX6_tell 6 = .ok (.if_icmp .gt 7, 3) := by decide +kernel
theorem dX6_tell_9 : decode cX6_tell 9 = .ok (.iconst 1, 1) := by decide +kernel
theorem dX6_tell_10 : decode cX6_tell 10 = .ok (.goto 4, 3) := by decide +kernel
theorem dX6_tell_13 : decode cX6_tell 13 = .ok (.iconst 0, 1) := by decide +kernel
theorem dX6_tell_14 : decode cX6_tell 14 = .ok (.istore_n 2, 1) := by decide +kernel
theorem dX6_tell_15 : decode cX6_tell 15 = .ok (.iload_n 1, 1) := by decide +kernel
theorem dX6_tell_16 : decode cX6_tell 16 = .ok (.bipush 100, 2) := by decide +kernel
theorem dX6_tell_18 : decode cX6_tell 18 = .ok (.if_icmp .lt 13, 3) := by decide +kernel
theorem dX6_tell_21 : decode cX6_tell 21 = .ok (.iload_n 1, 1) := by decide +kernel
theorem dX6_tell_22 : decode cX6_tell 22 = .ok (.bipush 106, 2) := by decide +kernel
theorem dX6_tell_24 : decode cX6_tell 24 = .ok (.if_icmp .ge 7, 3) := by decide +kernel
theorem dX6_tell_27 : decode cX6_tell 27 = .ok (.iconst 1, 1) := by decide +kernel
theorem dX6_tell_28 : decode cX6_tell 28 = .ok (.goto 4, 3) := by decide +kernel
theorem dX6_tell_31 : decode cX6_tell 31 = .ok (.iconst 0, 1) := by decide +kernel
theorem dX6_tell_32 : decode cX6_tell 32 = .ok (.istore_n 3, 1) := by decide +kernel
theorem dX6_tell_33 : decode cX6_tell 33 = .ok (.iload_n 2, 1) := by decide +kernel
theorem dX6_tell_34 : decode cX6_tell 34 = .ok (.ifCond .ne 17, 3) := by decide +kernel
theorem dX6_tell_37 : decode cX6_tell 37 = .ok (.iload_n 3, 1) := by decide +kernel
theorem dX6_tell_38 : decode cX6_tell 38 = .ok (.ifCond .ne 13, 3) := by decide +kernel
theorem dX6_tell_41 : decode cX6_tell 41 = .ok (.new 50, 3) := by decide +kernel
theorem dX6_tell_44 : decode cX6_tell 44 = .ok (.dup, 1) := by decide +kernel
theorem dX6_tell_45 : decode cX6_tell 45 = .ok (.ldc 144, 2) := by decide +kernel
theorem dX6_tell_47 : decode cX6_tell 47 = .ok (.invokespecial 54, 3) := by decide +kernel
theorem dX6_tell_50 : decode cX6_tell 50 = .ok (.athrow, 1) := by decide +kernel
theorem dX6_tell_51 : decode cX6_tell 51 = .ok (.aload_n 0, 1) := by decide +kernel
theorem dX6_tell_52 : decode cX6_tell 52 = .ok (.getfield 28, 3) := by decide +kernel
theorem dX6_tell_55 : decode cX6_tell 55 = .ok (.getfield 146, 3) := by decide +kernel
theorem dX6_tell_58 : decode cX6_tell 58 = .ok (.bipush 40, 2) := by decide +kernel
theorem dX6_tell_60 : decode cX6_tell 60 = .ok (.if_icmp .lt 13, 3) := by decide +kernel
theorem dX6_tell_63 : decode cX6_tell 63 = .ok (.new 70, 3) := by decide +kernel
theorem dX6_tell_66 : decode cX6_tell 66 = .ok (.dup, 1) := by decide +kernel
theorem dX6_tell_67 : decode cX6_tell 67 = .ok (.ldc 149, 2) := by decide +kernel
theorem dX6_tell_69 : decode cX6_tell 69 = .ok (.invokespecial 74, 3) := by decide +kernel
theorem dX6_tell_72 : decode cX6_tell 72 = .ok (.athrow, 1) := by decide +kernel
theorem dX6_tell_73 : decode cX6_tell 73 = .ok (.aload_n 0, 1) := by decide +kernel
theorem dX6_tell_74 : decode cX6_tell 74 = .ok (.getfield 28, 3) := by decide +kernel
theorem dX6_tell_77 : decode cX6_tell 77 = .ok (.iload_n 1, 1) := by decide +kernel
theorem dX6_tell_78 : decode cX6_tell 78 = .ok (.invokevirtual 151, 3) := by decide +kernel
theorem dX6_tell_81 : decode cX6_tell 81 = .ok (.aload_n 0, 1) := by decide +kernel
theorem dX6_tell_82 : decode cX6_tell 82 = .ok (.getfield 28, 3) := by decide +kernel
theorem dX6_tell_85 : decode cX6_tell 85 = .ok (.getfield 146, 3) := by decide +kernel
theorem dX6_tell_88 : decode cX6_tell 88 = .ok (.ireturn, 1) := by decide +kernel
theorem dX6_read_0 : decode cX6_read 0 = .ok (.aload_n 0, 1) := by decide +kernel
theorem dX6_read_1 : decode cX6_read 1 = .ok (.iload_n 1, 1) := by decide +kernel
theorem dX6_read_2 : decode cX6_read 2 = .ok (.invokevirtual 75, 3) := by decide +kernel
theorem dX6_read_5 : decode cX6_read 5 = .ok (.aload_n 0, 1) := by decide +kernel
theorem dX6_read_6 : decode cX6_read 6 = .ok (.getfield 21, 3) := by decide +kernel
theorem dX6_read_9 : decode cX6_read 9 = .ok (.invokevirtual 96, 3) := by decide +kernel
theorem dX6_read_12 : decode cX6_read 12 = .ok (.aload_n 0, 1) := by decide +kernel
theorem dX6_read_13 : decode cX6_read 13 = .ok (.getfield 28, 3) := by decide +kernel
theorem dX6_read_16 : decode cX6_read 16 = .ok (.iload_n 1, 1) := by decide +kernel
theorem dX6_read_17 : decode cX6_read 17 = .ok (.invokevirtual 153, 3) := by decide +kernel
theorem dX6_read_20 : decode cX6_read 20 = .ok (.astore_n 2, 1) := by decide +kernel
theorem dX6_read_21 : decode cX6_read 21 = .ok (.aload_n 0, 1) := by decide +kernel
theorem dX6_read_22 : decode cX6_read 22 = .ok (.getfield 28, 3) := by decide +kernel
theorem dX6_read_25 : decode cX6_read 25 = .ok (.iconst 0, 1) := by decide +kernel
theorem dX6_read_26 : decode cX6_read 26 = .ok (.putfield 146, 3) := by decide +kernel
theorem dX6_read_29 : decode cX6_read 29 = .ok (.aload_n 2, 1) := by decide +kernel
theorem dX6_read_30 : decode cX6_read 30 = .ok (.ifnonnull 5, 3) := by decide +kernel
theorem dX6_read_33 : decode cX6_read 33 = .ok (.iconst (-1), 1) := by decide +kernel
theorem dX6_read_34 : decode cX6_read 34 = .ok (.ireturn, 1) := by decide +kernel
theorem dX6_read_35 : decode cX6_read 35 = .ok (.aload_n 2, 1) := by decide +kernel
theorem dX6_read_36 : decode cX6_read 36 = .ok (.getfield 132, 3) := by decide +kernel
theorem dX6_read_39 : decode cX6_read 39 = .ok (.aload_n 0, 1) := by decide +kernel
theorem dX6_read_40 : decode cX6_read 40 = .ok (.getfield 21, 3) := by decide +kernel
theorem dX6_read_43 : decode cX6_read 43 = .ok (.getfield 99, 3) := by decide +kernel
theorem dX6_read_46 : decode cX6_read 46 = .ok (.if_icmp .le 13, 3) := by decide +kernel
theorem dX6_read_49 : decode cX6_read 49 = .ok (.new 70, 3) := by decide +kernel
theorem dX6_read_52 : decode cX6_read 52 = .ok (.dup, 1) := by decide +kernel
theorem dX6_read_53 : decode cX6_read 53 = .ok (.ldc 157, 2) := by decide +kernel
theorem dX6_read_55 : decode cX6_read 55 = .ok (.invokespecial 74, 3) := by decide +kernel
theorem dX6_read_58 : decode cX6_read 58 = .ok (.athrow, 1) := by decide +kernel
theorem dX6_read_59 : decode cX6_read 59 = .ok (.aload_n 0, 1) := by decide +kernel
theorem dX6_read_60 : decode cX6_read 60 = .ok (.getfield 21, 3) := by decide +kernel
theorem dX6_read_63 : decode cX6_read 63 = .ok (.aload_n 2, 1) := by decide +kernel
theorem dX6_read_64 : decode cX6_read 64 = .ok (.invokevirtual 159, 3) := by decide +kernel
theorem dX6_read_67 : decode cX6_read 67 = .ok (.astore_n 3, 1) := by decide +kernel
theorem dX6_read_68 : decode cX6_read 68 = .ok (.aload_n 3, 1) := by decide +kernel
theorem dX6_read_69 : decode cX6_read 69 = .ok (.ifnonnull 5, 3) := by decide +kernel
theorem dX6_read_72 : decode cX6_read 72 = .ok (.iconst (-1), 1) := by decide +kernel
theorem dX6_read_73 : decode cX6_read 73 = .ok (.ireturn, 1) := by decide +kernel
theorem dX6_read_74 : decode cX6_read 74 = .ok (.aload_n 0, 1) := by decide +kernel
theorem dX6_read_75 : decode cX6_read 75 = .ok (.aload_n 3, 1) := by decide +kernel
theorem dX6_read_76 : decode cX6_read 76 = .ok (.putfield 46, 3) := by decide +kernel
theorem dX6_read_79 : decode cX6_read 79 = .ok (.aload_n 3, 1) := by decide +kernel
theorem dX6_read_80 : decode cX6_read 80 = .ok (.getfield 163, 3) := by decide +kernel
theorem dX6_read_83 : decode cX6_read 83 = .ok (.ireturn, 1) := by decide +kernel
theorem dX6_length_0 : decode cX6_length 0 = .ok (.aload_n 0, 1) := by decide +kernel
theorem dX6_length_1 : decode cX6_length 1 = .ok (.invokevirtual 166, 3) := by decide +kernel
theorem dX6_length_4 : decode cX6_length 4 = .ok (.invokevirtual 170, 3) := by decide +kernel
theorem dX6_length_7 : decode cX6_length 7 = .ok (.ireturn, 1) := by decide +kernel
theorem dX6_code_0 : decode cX6_code 0 = .ok (.aload_n 0, 1) := by decide +kernel
theorem dX6_code_1 : decode cX6_code 1 = .ok (.invokevirtual 166, 3) := by decide +kernel
theorem dX6_code_4 : decode cX6_code 4 = .ok (.astore_n 2, 1) := by decide +kernel
theorem dX6_code_5 : decode cX6_code 5 = .ok (.iload_n 1, 1) := by decide +kernel
theorem dX6_code_6 : decode cX6_code 6 = .ok (.ifCond .lt 11, 3) := by decide +kernel
theorem dX6_code_9 : decode cX6_code 9 = .ok (.iload_n 1, 1) := by decide +kernel
theorem dX6_code_10 : decode cX6_code 10 = .ok (.aload_n 2, 1) := by decide +kernel
theorem dX6_code_11 : decode cX6_code 11 = .ok (.invokevirtual 170, 3) := by decide +kernel
theorem dX6_code_14 : decode cX6_code 14 = .ok (.if_icmp .lt 13, 3) := by decide +kernel
theorem dX6_code_17 : decode cX6_code 17 = .ok (.new 125, 3) := by decide +kernel
theorem dX6_code_20 : decode cX6_code 20 = .ok (.dup, 1) := by decide +kernel
theorem dX6_code_21 : decode cX6_code 21 = .ok (.ldc 174, 2) := by decide +kernel
theorem dX6_code_23 : decode cX6_code 23 = .ok (.invokespecial 129, 3) := by decide +kernel
theorem dX6_code_26 : decode cX6_code 26 = .ok (.athrow, 1) := by decide +kernel
theorem dX6_code_27 : decode cX6_code 27 = .ok (.aload_n 0, 1) := by decide +kernel
theorem dX6_code_28 : decode cX6_code 28 = .ok (.getfield 35, 3) := by decide +kernel
theorem dX6_code_31 : decode cX6_code 31 = .ok (.aload_n 2, 1) := by decide +kernel
theorem dX6_code_32 : decode cX6_code 32 = .ok (.invokevirtual 176, 3) := by decide +kernel
theorem dX6_code_35 : decode cX6_code 35 = .ok (.aload_n 0, 1) := by decide +kernel
theorem dX6_code_36 : decode cX6_code 36 = .ok (.getfield 35, 3) := by decide +kernel
theorem dX6_code_39 : decode cX6_code 39 = .ok (.iload_n 1, 1) := by decide +kernel
theorem dX6_code_40 : decode cX6_code 40 = .ok (.invokevirtual 180, 3) := by decide +kernel
theorem dX6_code_43 : decode cX6_code 43 = .ok (.ireturn, 1) := by decide +kernel
theorem dX6_number_0 : decode cX6_number 0 = .ok (.aload_n 0, 1) := by decide +kernel
theorem dX6_number_1 : decode cX6_number 1 = .ok (.invokevirtual 166, 3) := by decide +kernel
theorem dX6_number_4 : decode cX6_number 4 = .ok (.getfield 163, 3) := by decide +kernel
theorem dX6_number_7 : decode cX6_number 7 = .ok (.ireturn, 1) := by decide +kernel
theorem dX6_height_0 : decode cX6_height 0 = .ok (.aload_n 0, 1) := by decide +kernel
theorem dX6_height_1 : decode cX6_height 1 = .ok (.invokevirtual 166, 3) := by decide +kernel
theorem dX6_height_4 : decode cX6_height 4 = .ok (.getfield 184, 3) := by decide +kernel
theorem dX6_height_7 : decode cX6_height 7 = .ok (.ireturn, 1) := by decide +kernel
theorem dX6_mean_0 : decode cX6_mean 0 = .ok (.aload_n 0, 1) := by decide +kernel
theorem dX6_mean_1 : decode cX6_mean 1 = .ok (.invokevirtual 166, 3) := by decide +kernel
theorem dX6_mean_4 : decode cX6_mean 4 = .ok (.astore_n 1, 1) := by decide +kernel
theorem dX6_mean_5 : decode cX6_mean 5 = .ok (.aload_n 1, 1) := by decide +kernel
theorem dX6_mean_6 : decode cX6_mean 6 = .ok (.getfield 187, 3) := by decide +kernel
theorem dX6_mean_9 : decode cX6_mean 9 = .ok (.ifCond .gt 5, 3) := by decide +kernel
theorem dX6_mean_12 : decode cX6_mean 12 = .ok (.dconst 0, 1) := by decide +kernel
theorem dX6_mean_13 : decode cX6_mean 13 = .ok (.dreturn, 1) := by decide +kernel
theorem dX6_mean_14 : decode cX6_mean 14 = .ok (.aload_n 1, 1) := by decide +kernel
theorem dX6_mean_15 : decode cX6_mean 15 = .ok (.getfield 190, 3) := by decide +kernel
theorem dX6_mean_18 : decode cX6_mean 18 = .ok (.i2d, 1) := by decide +kernel
theorem dX6_mean_19 : decode cX6_mean 19 = .ok (.aload_n 1, 1) := by decide +kernel
theorem dX6_mean_20 : decode cX6_mean 20 = .ok (.getfield 187, 3) := by decide +kernel
theorem dX6_mean_23 : decode cX6_mean 23 = .ok (.i2d, 1) := by decide +kernel
theorem dX6_mean_24 : decode cX6_mean 24 = .ok (.ddiv, 1) := by decide +kernel
theorem dX6_mean_25 : decode cX6_mean 25 = .ok (.dreturn, 1) := by decide +kernel
theorem dX6_holds_0 : decode cX6_holds 0 = .ok (.aload_n 0, 1) := by decide +kernel
theorem dX6_holds_1 : decode cX6_holds 1 = .ok (.invokevirtual 166, 3) := by decide +kernel
theorem dX6_holds_4 : decode cX6_holds 4 = .ok (.astore_n 2, 1) := by decide +kernel
theorem dX6_holds_5 : decode cX6_holds 5 = .ok (.aload_n 0, 1) := by decide +kernel
theorem dX6_holds_6 : decode cX6_holds 6 = .ok (.iload_n 1, 1) := by decide +kernel
theorem dX6_holds_7 : decode cX6_holds 7 = .ok (.invokevirtual 112, 3) := by decide +kernel
theorem dX6_holds_10 : decode cX6_holds 10 = .ok (.aload_n 2, 1) := by decide +kernel
theorem dX6_holds_11 : decode cX6_holds 11 = .ok (.iload_n 1, 1) := by decide +kernel
theorem dX6_holds_12 : decode cX6_holds 12 = .ok (.invokevirtual 119, 3) := by decide +kernel
theorem dX6_holds_15 : decode cX6_holds 15 = .ok (.ireturn, 1) := by decide +kernel
theorem dX6_reductionCount_0 : decode cX6_reductionCount 0 = .ok (.aload_n 0, 1) := by decide +kernel
theorem dX6_reductionCount_1 : decode cX6_reductionCount 1 = .ok (.getfield 42, 3) := by decide +kernel
theorem dX6_reductionCount_4 : decode cX6_reductionCount 4 = .ok (.aload_n 0, 1) := by decide +kernel
theorem dX6_reductionCount_5 : decode cX6_reductionCount 5 = .ok (.invokevirtual 166, 3) := by decide +kernel
theorem dX6_reductionCount_8 : decode cX6_reductionCount 8 = .ok (.aload_n 0, 1) := by decide +kernel
theorem dX6_reductionCount_9 : decode cX6_reductionCount 9 = .ok (.getfield 21, 3) := by decide +kernel
theorem dX6_reductionCount_12 : decode cX6_reductionCount 12 = .ok (.invokevirtual 193, 3) := by decide +kernel
theorem dX6_reductionCount_15 : decode cX6_reductionCount 15 = .ok (.aload_n 0, 1) := by decide +kernel
theorem dX6_reductionCount_16 : decode cX6_reductionCount 16 = .ok (.getfield 42, 3) := by decide +kernel
theorem dX6_reductionCount_19 : decode cX6_reductionCount 19 = .ok (.getfield 197, 3) := by decide +kernel
theorem dX6_reductionCount_22 : decode cX6_reductionCount 22 = .ok (.ireturn, 1) := by decide +kernel
theorem dX6_reduction_0 : decode cX6_reduction 0 = .ok (.aload_n 0, 1) := by decide +kernel
theorem dX6_reduction_1 : decode cX6_reduction 1 = .ok (.getfield 42, 3) := by decide +kernel
theorem dX6_reduction_4 : decode cX6_reduction 4 = .ok (.aload_n 0, 1) := by decide +kernel
theorem dX6_reduction_5 : decode cX6_reduction 5 = .ok (.invokevirtual 166, 3) := by decide +kernel
theorem dX6_reduction_8 : decode cX6_reduction 8 = .ok (.aload_n 0, 1) := by decide +kernel
theorem dX6_reduction_9 : decode cX6_reduction 9 = .ok (.getfield 21, 3) := by decide +kernel
theorem dX6_reduction_12 : decode cX6_reduction 12 = .ok (.invokevirtual 193, 3) := by decide +kernel
theorem dX6_reduction_15 : decode cX6_reduction 15 = .ok (.aload_n 0, 1) := by decide +kernel
theorem dX6_reduction_16 : decode cX6_reduction 16 = .ok (.getfield 42, 3) := by decide +kernel
theorem dX6_reduction_19 : decode cX6_reduction 19 = .ok (.iload_n 1, 1) := by decide +kernel
theorem dX6_reduction_20 : decode cX6_reduction 20 = .ok (.invokevirtual 198, 3) := by decide +kernel
theorem dX6_reduction_23 : decode cX6_reduction 23 = .ok (.astore_n 2, 1) := by decide +kernel
theorem dX6_reduction_24 : decode cX6_reduction 24 = .ok (.aload_n 2, 1) := by decide +kernel
theorem dX6_reduction_25 : decode cX6_reduction 25 = .ok (.ifnonnull 13, 3) := by decide +kernel
theorem dX6_reduction_28 : decode cX6_reduction 28 = .ok (.new 125, 3) := by decide +kernel
theorem dX6_reduction_31 : decode cX6_reduction 31 = .ok (.dup, 1) := by decide +kernel
theorem dX6_reduction_32 : decode cX6_reduction 32 = .ok (.ldc 200, 2) := by decide +kernel
theorem dX6_reduction_34 : decode cX6_reduction 34 = .ok (.invokespecial 129, 3) := by decide +kernel
theorem dX6_reduction_37 : decode cX6_reduction 37 = .ok (.athrow, 1) := by decide +kernel
theorem dX6_reduction_38 : decode cX6_reduction 38 = .ok (.aload_n 2, 1) := by decide +kernel
theorem dX6_reduction_39 : decode cX6_reduction 39 = .ok (.getfield 163, 3) := by decide +kernel
theorem dX6_reduction_42 : decode cX6_reduction 42 = .ok (.ireturn, 1) := by decide +kernel
theorem dX6_reduce_0 : decode cX6_reduce 0 = .ok (.aload_n 0, 1) := by decide +kernel
theorem dX6_reduce_1 : decode cX6_reduce 1 = .ok (.invokevirtual 166, 3) := by decide +kernel
theorem dX6_reduce_4 : decode cX6_reduce 4 = .ok (.astore_n 2, 1) := by decide +kernel
theorem dX6_reduce_5 : decode cX6_reduce 5 = .ok (.aload_n 0, 1) := by decide +kernel
theorem dX6_reduce_6 : decode cX6_reduce 6 = .ok (.iload_n 1, 1) := by decide +kernel
theorem dX6_reduce_7 : decode cX6_reduce 7 = .ok (.invokevirtual 112, 3) := by decide +kernel
theorem dX6_reduce_10 : decode cX6_reduce 10 = .ok (.iconst 0, 1) := by decide +kernel
theorem dX6_reduce_11 : decode cX6_reduce 11 = .ok (.istore_n 3, 1) := by decide +kernel
theorem dX6_reduce_12 : decode cX6_reduce 12 = .ok (.iload_n 3, 1) := by decide +kernel
theorem dX6_reduce_13 : decode cX6_reduce 13 = .ok (.sipush 300, 3) := by decide +kernel
theorem dX6_reduce_16 : decode cX6_reduce 16 = .ok (.if_icmp .ge 50, 3) := by decide +kernel
theorem dX6_reduce_19 : decode cX6_reduce 19 = .ok (.aload_n 2, 1) := by decide +kernel
theorem dX6_reduce_20 : decode cX6_reduce 20 = .ok (.iload_n 1, 1) := by decide +kernel
theorem dX6_reduce_21 : decode cX6_reduce 21 = .ok (.invokevirtual 119, 3) := by decide +kernel
theorem dX6_reduce_24 : decode cX6_reduce 24 = .ok (.ifCond .ne 42, 3) := by decide +kernel
theorem dX6_reduce_27 : decode cX6_reduce 27 = .ok (.aload_n 0, 1) := by decide +kernel
theorem dX6_reduce_28 : decode cX6_reduce 28 = .ok (.getfield 42, 3) := by decide +kernel
theorem dX6_reduce_31 : decode cX6_reduce 31 = .ok (.aload_n 2, 1) := by decide +kernel
theorem dX6_reduce_32 : decode cX6_reduce 32 = .ok (.aload_n 0, 1) := by decide +kernel
theorem dX6_reduce_33 : decode cX6_reduce 33 = .ok (.getfield 21, 3) := by decide +kernel
theorem dX6_reduce_36 : decode cX6_reduce 36 = .ok (.invokevirtual 193, 3) := by decide +kernel
theorem dX6_reduce_39 : decode cX6_reduce 39 = .ok (.aload_n 0, 1) := by decide +kernel
theorem dX6_reduce_40 : decode cX6_reduce 40 = .ok (.getfield 42, 3) := by decide +kernel
theorem dX6_reduce_43 : decode cX6_reduce 43 = .ok (.iload_n 1, 1) := by decide +kernel
theorem dX6_reduce_44 : decode cX6_reduce 44 = .ok (.invokevirtual 202, 3) := by decide +kernel
theorem dX6_reduce_47 : decode cX6_reduce 47 = .ok (.astore 4, 2) := by decide +kernel
theorem dX6_reduce_49 : decode cX6_reduce 49 = .ok (.aload 4, 2) := by decide +kernel
theorem dX6_reduce_51 : decode cX6_reduce 51 = .ok (.ifnonnull 6, 3) := by decide +kernel
theorem dX6_reduce_54 : decode cX6_reduce 54 = .ok (.goto 12, 3) := by decide +kernel
theorem dX6_reduce_57 : decode cX6_reduce 57 = .ok (.aload 4, 2) := by decide +kernel
theorem dX6_reduce_59 : decode cX6_reduce 59 = .ok (.astore_n 2, 1) := by decide +kernel
theorem dX6_reduce_60 : decode cX6_reduce 60 = .ok (.iinc 3 1, 3) := by decide +kernel
theorem dX6_reduce_63 : decode cX6_reduce 63 = .ok (.goto (-51), 3) := by decide +kernel
theorem dX6_reduce_66 : decode cX6_reduce 66 = .ok (.aload_n 0, 1) := by decide +kernel
theorem dX6_reduce_67 : decode cX6_reduce 67 = .ok (.aload_n 2, 1) := by decide +kernel
theorem dX6_reduce_68 : decode cX6_reduce 68 = .ok (.putfield 46, 3) := by decide +kernel
theorem dX6_reduce_71 : decode cX6_reduce 71 = .ok (.iload_n 3, 1) := by decide +kernel
theorem dX6_reduce_72 : decode cX6_reduce 72 = .ok (.ireturn, 1) := by decide +kernel
theorem dX6_digest_0 : decode cX6_digest 0 = .ok (.ldc2_w 205, 3) := by decide +kernel
theorem dX6_digest_3 : decode cX6_digest 3 = .ok (.lstore_n 1, 1) := by decide +kernel
theorem dX6_digest_4 : decode cX6_digest 4 = .ok (.lload_n 1, 1) := by decide +kernel
theorem dX6_digest_5 : decode cX6_digest 5 = .ok (.ldc2_w 207, 3) := by decide +kernel
theorem dX6_digest_8 : decode cX6_digest 8 = .ok (.lmul, 1) := by decide +kernel
theorem dX6_digest_9 : decode cX6_digest 9 = .ok (.aload_n 0, 1) := by decide +kernel
theorem dX6_digest_10 : decode cX6_digest 10 = .ok (.getfield 10, 3) := by decide +kernel
theorem dX6_digest_13 : decode cX6_digest 13 = .ok (.getfield 57, 3) := by decide +kernel
theorem dX6_digest_16 : decode cX6_digest 16 = .ok (.i2l, 1) := by decide +kernel
theorem dX6_digest_17 : decode cX6_digest 17 = .ok (.ladd, 1) := by decide +kernel
theorem dX6_digest_18 : decode cX6_digest 18 = .ok (.lstore_n 1, 1) := by decide +kernel
theorem dX6_digest_19 : decode cX6_digest 19 = .ok (.lload_n 1, 1) := by decide +kernel
theorem dX6_digest_20 : decode cX6_digest 20 = .ok (.ldc2_w 207, 3) := by decide +kernel
theorem dX6_digest_23 : decode cX6_digest 23 = .ok (.lmul, 1) := by decide +kernel
theorem dX6_digest_24 : decode cX6_digest 24 = .ok (.aload_n 0, 1) := by decide +kernel
theorem dX6_digest_25 : decode cX6_digest 25 = .ok (.getfield 10, 3) := by decide +kernel
theorem dX6_digest_28 : decode cX6_digest 28 = .ok (.getfield 61, 3) := by decide +kernel
theorem dX6_digest_31 : decode cX6_digest 31 = .ok (.i2l, 1) := by decide +kernel
theorem dX6_digest_32 : decode cX6_digest 32 = .ok (.ladd, 1) := by decide +kernel
theorem dX6_digest_33 : decode cX6_digest 33 = .ok (.lstore_n 1, 1) := by decide +kernel
theorem dX6_digest_34 : decode cX6_digest 34 = .ok (.lload_n 1, 1) := by decide +kernel
theorem dX6_digest_35 : decode cX6_digest 35 = .ok (.ldc2_w 207, 3) := by decide +kernel
theorem dX6_digest_38 : decode cX6_digest 38 = .ok (.lmul, 1) := by decide +kernel
theorem dX6_digest_39 : decode cX6_digest 39 = .ok (.aload_n 0, 1) := by decide +kernel
theorem dX6_digest_40 : decode cX6_digest 40 = .ok (.getfield 10, 3) := by decide +kernel
theorem dX6_digest_43 : decode cX6_digest 43 = .ok (.getfield 67, 3) := by decide +kernel
theorem dX6_digest_46 : decode cX6_digest 46 = .ok (.i2l, 1) := by decide +kernel
theorem dX6_digest_47 : decode cX6_digest 47 = .ok (.ladd, 1) := by decide +kernel
theorem dX6_digest_48 : decode cX6_digest 48 = .ok (.lstore_n 1, 1) := by decide +kernel
theorem dX6_digest_49 : decode cX6_digest 49 = .ok (.lload_n 1, 1) := by decide +kernel
theorem dX6_digest_50 : decode cX6_digest 50 = .ok (.ldc2_w 207, 3) := by decide +kernel
theorem dX6_digest_53 : decode cX6_digest 53 = .ok (.lmul, 1) := by decide +kernel
theorem dX6_digest_54 : decode cX6_digest 54 = .ok (.aload_n 0, 1) := by decide +kernel
theorem dX6_digest_55 : decode cX6_digest 55 = .ok (.getfield 10, 3) := by decide +kernel
theorem dX6_digest_58 : decode cX6_digest 58 = .ok (.getfield 87, 3) := by decide +kernel
theorem dX6_digest_61 : decode cX6_digest 61 = .ok (.i2l, 1) := by decide +kernel
theorem dX6_digest_62 : decode cX6_digest 62 = .ok (.ladd, 1) := by decide +kernel
theorem dX6_digest_63 : decode cX6_digest 63 = .ok (.lstore_n 1, 1) := by decide +kernel
theorem dX6_digest_64 : decode cX6_digest 64 = .ok (.iconst 0, 1) := by decide +kernel
theorem dX6_digest_65 : decode cX6_digest 65 = .ok (.istore_n 3, 1) := by decide +kernel
theorem dX6_digest_66 : decode cX6_digest 66 = .ok (.iload_n 3, 1) := by decide +kernel
theorem dX6_digest_67 : decode cX6_digest 67 = .ok (.aload_n 0, 1) := by decide +kernel
theorem dX6_digest_68 : decode cX6_digest 68 = .ok (.getfield 10, 3) := by decide +kernel
theorem dX6_digest_71 : decode cX6_digest 71 = .ok (.getfield 87, 3) := by decide +kernel
theorem dX6_digest_74 : decode cX6_digest 74 = .ok (.if_icmp .ge 74, 3) := by decide +kernel
theorem dX6_digest_77 : decode cX6_digest 77 = .ok (.lload_n 1, 1) := by decide +kernel
theorem dX6_digest_78 : decode cX6_digest 78 = .ok (.ldc2_w 207, 3) := by decide +kernel
theorem dX6_digest_81 : decode cX6_digest 81 = .ok (.lmul, 1) := by decide +kernel
theorem dX6_digest_82 : decode cX6_digest 82 = .ok (.aload_n 0, 1) := by decide +kernel
theorem dX6_digest_83 : decode cX6_digest 83 = .ok (.getfield 10, 3) := by decide +kernel
theorem dX6_digest_86 : decode cX6_digest 86 = .ok (.iload_n 3, 1) := by decide +kernel
theorem dX6_digest_87 : decode cX6_digest 87 = .ok (.invokevirtual 209, 3) := by decide +kernel
theorem dX6_digest_90 : decode cX6_digest 90 = .ok (.i2l, 1) := by decide +kernel
theorem dX6_digest_91 : decode cX6_digest 91 = .ok (.ladd, 1) := by decide +kernel
theorem dX6_digest_92 : decode cX6_digest 92 = .ok (.lstore_n 1, 1) := by decide +kernel
theorem dX6_digest_93 : decode cX6_digest 93 = .ok (.iconst 0, 1) := by decide +kernel
theorem dX6_digest_94 : decode cX6_digest 94 = .ok (.istore 4, 2) := by decide +kernel
theorem dX6_digest_96 : decode cX6_digest 96 = .ok (.iload 4, 2) := by decide +kernel
theorem dX6_digest_98 : decode cX6_digest 98 = .ok (.iconst 3, 1) := by decide +kernel
theorem dX6_digest_99 : decode cX6_digest 99 = .ok (.if_icmp .ge 27, 3) := by decide +kernel
theorem dX6_digest_102 : decode cX6_digest 102 = .ok (.lload_n 1, 1) := by decide +kernel
theorem dX6_digest_103 : decode cX6_digest 103 = .ok (.ldc2_w 207, 3) := by decide +kernel
theorem dX6_digest_106 : decode cX6_digest 106 = .ok (.lmul, 1) := by decide +kernel
theorem dX6_digest_107 : decode cX6_digest 107 = .ok (.aload_n 0, 1) := by decide +kernel
theorem dX6_digest_108 : decode cX6_digest 108 = .ok (.getfield 10, 3) := by decide +kernel
theorem dX6_digest_111 : decode cX6_digest 111 = .ok (.iload_n 3, 1) := by decide +kernel
theorem dX6_digest_112 : decode cX6_digest 112 = .ok (.iload 4, 2) := by decide +kernel
theorem dX6_digest_114 : decode cX6_digest 114 = .ok (.invokevirtual 212, 3) := by decide +kernel
theorem dX6_digest_117 : decode cX6_digest 117 = .ok (.i2l, 1) := by decide +kernel
theorem dX6_digest_118 : decode cX6_digest 118 = .ok (.ladd, 1) := by decide +kernel
theorem dX6_digest_119 : decode cX6_digest 119 = .ok (.lstore_n 1, 1) := by decide +kernel
theorem dX6_digest_120 : decode cX6_digest 120 = .ok (.iinc 4 1, 3) := by decide +kernel
theorem dX6_digest_123 : decode cX6_digest 123 = .ok (.goto (-27), 3) := by decide +kernel
theorem dX6_digest_126 : decode cX6_digest 126 = .ok (.lload_n 1, 1) := by decide +kernel
theorem dX6_digest_127 : decode cX6_digest 127 = .ok (.ldc2_w 207, 3) := by decide +kernel
theorem dX6_digest_130 : decode cX6_digest 130 = .ok (.lmul, 1) := by decide +kernel
theorem dX6_digest_131 : decode cX6_digest 131 = .ok (.aload_n 0, 1) := by decide +kernel
theorem dX6_digest_132 : decode cX6_digest 132 = .ok (.getfield 10, 3) := by decide +kernel
theorem dX6_digest_135 : decode cX6_digest 135 = .ok (.iload_n 3, 1) := by decide +kernel
theorem dX6_digest_136 : decode cX6_digest 136 = .ok (.invokevirtual 215, 3) := by decide +kernel
theorem dX6_digest_139 : decode cX6_digest 139 = .ok (.i2l, 1) := by decide +kernel
theorem dX6_digest_140 : decode cX6_digest 140 = .ok (.ladd, 1) := by decide +kernel
theorem dX6_digest_141 : decode cX6_digest 141 = .ok (.lstore_n 1, 1) := by decide +kernel
theorem dX6_digest_142 : decode cX6_digest 142 = .ok (.iinc 3 1, 3) := by decide +kernel
theorem dX6_digest_145 : decode cX6_digest 145 = .ok (.goto (-79), 3) := by decide +kernel
theorem dX6_digest_148 : decode cX6_digest 148 = .ok (.lload_n 1, 1) := by decide +kernel
theorem dX6_digest_149 : decode cX6_digest 149 = .ok (.ldc2_w 207, 3) := by decide +kernel
theorem dX6_digest_152 : decode cX6_digest 152 = .ok (.lmul, 1) := by decide +kernel
theorem dX6_digest_153 : decode cX6_digest 153 = .ok (.aload_n 0, 1) := by decide +kernel
theorem dX6_digest_154 : decode cX6_digest 154 = .ok (.getfield 28, 3) := by decide +kernel
theorem dX6_digest_157 : decode cX6_digest 157 = .ok (.getfield 146, 3) := by decide +kernel
theorem dX6_digest_160 : decode cX6_digest 160 = .ok (.i2l, 1) := by decide +kernel
theorem dX6_digest_161 : decode cX6_digest 161 = .ok (.ladd, 1) := by decide +kernel
theorem dX6_digest_162 : decode cX6_digest 162 = .ok (.lstore_n 1, 1) := by decide +kernel
theorem dX6_digest_163 : decode cX6_digest 163 = .ok (.aload_n 0, 1) := by decide +kernel
theorem dX6_digest_164 : decode cX6_digest 164 = .ok (.getfield 46, 3) := by decide +kernel
theorem dX6_digest_167 : decode cX6_digest 167 = .ok (.ifnull 49, 3) := by decide +kernel
theorem dX6_digest_170 : decode cX6_digest 170 = .ok (.aload_n 0, 1) := by decide +kernel
theorem dX6_digest_171 : decode cX6_digest 171 = .ok (.getfield 35, 3) := by decide +kernel
theorem dX6_digest_174 : decode cX6_digest 174 = .ok (.aload_n 0, 1) := by decide +kernel
theorem dX6_digest_175 : decode cX6_digest 175 = .ok (.getfield 46, 3) := by decide +kernel
theorem dX6_digest_178 : decode cX6_digest 178 = .ok (.invokevirtual 176, 3) := by decide +kernel
theorem dX6_digest_181 : decode cX6_digest 181 = .ok (.iconst 0, 1) := by decide +kernel
theorem dX6_digest_182 : decode cX6_digest 182 = .ok (.istore_n 3, 1) := by decide +kernel
theorem dX6_digest_183 : decode cX6_digest 183 = .ok (.iload_n 3, 1) := by decide +kernel
theorem dX6_digest_184 : decode cX6_digest 184 = .ok (.aload_n 0, 1) := by decide +kernel
theorem dX6_digest_185 : decode cX6_digest 185 = .ok (.getfield 35, 3) := by decide +kernel
theorem dX6_digest_188 : decode cX6_digest 188 = .ok (.getfield 218, 3) := by decide +kernel
theorem dX6_digest_191 : decode cX6_digest 191 = .ok (.if_icmp .ge 25, 3) := by decide +kernel
theorem dX6_digest_194 : decode cX6_digest 194 = .ok (.lload_n 1, 1) := by decide +kernel
theorem dX6_digest_195 : decode cX6_digest 195 = .ok (.ldc2_w 207, 3) := by decide +kernel
theorem dX6_digest_198 : decode cX6_digest 198 = .ok (.lmul, 1) := by decide +kernel
theorem dX6_digest_199 : decode cX6_digest 199 = .ok (.aload_n 0, 1) := by decide +kernel
theorem dX6_digest_200 : decode cX6_digest 200 = .ok (.getfield 35, 3) := by decide +kernel
theorem dX6_digest_203 : decode cX6_digest 203 = .ok (.iload_n 3, 1) := by decide +kernel
theorem dX6_digest_204 : decode cX6_digest 204 = .ok (.invokevirtual 180, 3) := by decide +kernel
theorem dX6_digest_207 : decode cX6_digest 207 = .ok (.i2l, 1) := by decide +kernel
theorem dX6_digest_208 : decode cX6_digest 208 = .ok (.ladd, 1) := by decide +kernel
theorem dX6_digest_209 : decode cX6_digest 209 = .ok (.lstore_n 1, 1) := by decide +kernel
theorem dX6_digest_210 : decode cX6_digest 210 = .ok (.iinc 3 1, 3) := by decide +kernel
theorem dX6_digest_213 : decode cX6_digest 213 = .ok (.goto (-30), 3) := by decide +kernel
theorem dX6_digest_216 : decode cX6_digest 216 = .ok (.lload_n 1, 1) := by decide +kernel
theorem dX6_digest_217 : decode cX6_digest 217 = .ok (.lreturn, 1) := by decide +kernel
theorem dX6_forgetValues_0 : decode cX6_forgetValues 0 = .ok (.aload_n 0, 1) := by decide +kernel
theorem dX6_forgetValues_1 : decode cX6_forgetValues 1 = .ok (.getfield 21, 3) := by decide +kernel
theorem dX6_forgetValues_4 : decode cX6_forgetValues 4 = .ok (.iconst 0, 1) := by decide +kernel
theorem dX6_forgetValues_5 : decode cX6_forgetValues 5 = .ok (.putfield 219, 3) := by decide +kernel
theorem dX6_forgetValues_8 : decode cX6_forgetValues 8 = .ok (.aload_n 0, 1) := by decide +kernel
theorem dX6_forgetValues_9 : decode cX6_forgetValues 9 = .ok (.aconst_null, 1) := by decide +kernel
theorem dX6_forgetValues_10 : decode cX6_forgetValues 10 = .ok (.putfield 46, 3) := by decide +kernel
theorem dX6_forgetValues_13 : decode cX6_forgetValues 13 = .ok (.return_, 1) := by decide +kernel
theorem dX6_chosen_0 : decode cX6_chosen 0 = .ok (.aload_n 0, 1) := by decide +kernel
theorem dX6_chosen_1 : decode cX6_chosen 1 = .ok (.getfield 46, 3) := by decide +kernel
theorem dX6_chosen_4 : decode cX6_chosen 4 = .ok (.ifnonnull 13, 3) := by decide +kernel
theorem dX6_chosen_7 : decode cX6_chosen 7 = .ok (.new 70, 3) := by decide +kernel
theorem dX6_chosen_10 : decode cX6_chosen 10 = .ok (.dup, 1) := by decide +kernel
theorem dX6_chosen_11 : decode cX6_chosen 11 = .ok (.ldc 223, 2) := by decide +kernel
theorem dX6_chosen_13 : decode cX6_chosen 13 = .ok (.invokespecial 74, 3) := by decide +kernel
theorem dX6_chosen_16 : decode cX6_chosen 16 = .ok (.athrow, 1) := by decide +kernel
theorem dX6_chosen_17 : decode cX6_chosen 17 = .ok (.aload_n 0, 1) := by decide +kernel
theorem dX6_chosen_18 : decode cX6_chosen 18 = .ok (.getfield 46, 3) := by decide +kernel
theorem dX6_chosen_21 : decode cX6_chosen 21 = .ok (.areturn, 1) := by decide +kernel
theorem dX6_requireType_0 : decode cX6_requireType 0 = .ok (.aload_n 0, 1) := by decide +kernel
theorem dX6_requireType_1 : decode cX6_requireType 1 = .ok (.getfield 10, 3) := by decide +kernel
theorem dX6_requireType_4 : decode cX6_requireType 4 = .ok (.iload_n 1, 1) := by decide +kernel
theorem dX6_requireType_5 : decode cX6_requireType 5 = .ok (.invokevirtual 225, 3) := by decide +kernel
theorem dX6_requireType_8 : decode cX6_requireType 8 = .ok (.ifCond .ne 13, 3) := by decide +kernel
theorem dX6_requireType_11 : decode cX6_requireType 11 = .ok (.new 125, 3) := by decide +kernel
theorem dX6_requireType_14 : decode cX6_requireType 14 = .ok (.dup, 1) := by decide +kernel
theorem dX6_requireType_15 : decode cX6_requireType 15 = .ok (.ldc 228, 2) := by decide +kernel
theorem dX6_requireType_17 : decode cX6_requireType 17 = .ok (.invokespecial 129, 3) := by decide +kernel
theorem dX6_requireType_20 : decode cX6_requireType 20 = .ok (.athrow, 1) := by decide +kernel
theorem dX6_requireType_21 : decode cX6_requireType 21 = .ok (.return_, 1) := by decide +kernel
theorem dX6_requireProperty_0 : decode cX6_requireProperty 0 = .ok (.iload_n 1, 1) := by decide +kernel
theorem dX6_requireProperty_1 : decode cX6_requireProperty 1 = .ok (.iconst 1, 1) := by decide +kernel
theorem dX6_requireProperty_2 : decode cX6_requireProperty 2 = .ok (.if_icmp .lt 8, 3) := by decide +kernel
theorem dX6_requireProperty_5 : decode cX6_requireProperty 5 = .ok (.iload_n 1, 1) := by decide +kernel
theorem dX6_requireProperty_6 : decode cX6_requireProperty 6 = .ok (.iconst 5, 1) := by decide +kernel
theorem dX6_requireProperty_7 : decode cX6_requireProperty 7 = .ok (.if_icmp .le 13, 3) := by decide +kernel
theorem dX6_requireProperty_10 : decode cX6_requireProperty 10 = .ok (.new 50, 3) := by decide +kernel
theorem dX6_requireProperty_13 : decode cX6_requireProperty 13 = .ok (.dup, 1) := by decide +kernel
theorem dX6_requireProperty_14 : decode cX6_requireProperty 14 = .ok (.ldc 230, 2) := by decide +kernel
theorem dX6_requireProperty_16 : decode cX6_requireProperty 16 = .ok (.invokespecial 54, 3) := by decide +kernel
theorem dX6_requireProperty_19 : decode cX6_requireProperty 19 = .ok (.athrow, 1) := by decide +kernel
theorem dX6_requireProperty_20 : decode cX6_requireProperty 20 = .ok (.return_, 1) := by decide +kernel
theorem dX6_requireSize_0 : decode cX6_requireSize 0 = .ok (.iload_n 1, 1) := by decide +kernel
theorem dX6_requireSize_1 : decode cX6_requireSize 1 = .ok (.iconst 1, 1) := by decide +kernel
theorem dX6_requireSize_2 : decode cX6_requireSize 2 = .ok (.if_icmp .lt 9, 3) := by decide +kernel
theorem dX6_requireSize_5 : decode cX6_requireSize 5 = .ok (.iload_n 1, 1) := by decide +kernel
theorem dX6_requireSize_6 : decode cX6_requireSize 6 = .ok (.bipush 8, 2) := by decide +kernel
theorem dX6_requireSize_8 : decode cX6_requireSize 8 = .ok (.if_icmp .le 13, 3) := by decide +kernel
theorem dX6_requireSize_11 : decode cX6_requireSize 11 = .ok (.new 50, 3) := by decide +kernel
theorem dX6_requireSize_14 : decode cX6_requireSize 14 = .ok (.dup, 1) := by decide +kernel
theorem dX6_requireSize_15 : decode cX6_requireSize 15 = .ok (.ldc 232, 2) := by decide +kernel
theorem dX6_requireSize_17 : decode cX6_requireSize 17 = .ok (.invokespecial 54, 3) := by decide +kernel
theorem dX6_requireSize_20 : decode cX6_requireSize 20 = .ok (.athrow, 1) := by decide +kernel
theorem dX6_requireSize_21 : decode cX6_requireSize 21 = .ok (.return_, 1) := by decide +kernel
theorem dX6_requireKnown_0 : decode cX6_requireKnown 0 = .ok (.aload_n 0, 1) := by decide +kernel
theorem dX6_requireKnown_1 : decode cX6_requireKnown 1 = .ok (.getfield 21, 3) := by decide +kernel
theorem dX6_requireKnown_4 : decode cX6_requireKnown 4 = .ok (.invokevirtual 96, 3) := by decide +kernel
theorem dX6_requireKnown_7 : decode cX6_requireKnown 7 = .ok (.iload_n 1, 1) := by decide +kernel
theorem dX6_requireKnown_8 : decode cX6_requireKnown 8 = .ok (.aload_n 0, 1) := by decide +kernel
theorem dX6_requireKnown_9 : decode cX6_requireKnown 9 = .ok (.getfield 21, 3) := by decide +kernel
theorem dX6_requireKnown_12 : decode cX6_requireKnown 12 = .ok (.getfield 99, 3) := by decide +kernel
theorem dX6_requireKnown_15 : decode cX6_requireKnown 15 = .ok (.if_icmp .le 13, 3) := by decide +kernel
theorem dX6_requireKnown_18 : decode cX6_requireKnown 18 = .ok (.new 70, 3) := by decide +kernel
theorem dX6_requireKnown_21 : decode cX6_requireKnown 21 = .ok (.dup, 1) := by decide +kernel
theorem dX6_requireKnown_22 : decode cX6_requireKnown 22 = .ok (.ldc 234, 2) := by decide +kernel
theorem dX6_requireKnown_24 : decode cX6_requireKnown 24 = .ok (.invokespecial 74, 3) := by decide +kernel
theorem dX6_requireKnown_27 : decode cX6_requireKnown 27 = .ok (.athrow, 1) := by decide +kernel
theorem dX6_requireKnown_28 : decode cX6_requireKnown 28 = .ok (.return_, 1) := by decide +kernel
theorem dX7_init_0 : decode cX7_init 0 = .ok (.aload_n 0, 1) := by decide +kernel
theorem dX7_init_1 : decode cX7_init 1 = .ok (.invokespecial 1, 3) := by decide +kernel
theorem dX7_init_4 : decode cX7_init 4 = .ok (.aload_n 0, 1) := by decide +kernel
theorem dX7_init_5 : decode cX7_init 5 = .ok (.iconst 2, 1) := by decide +kernel
theorem dX7_init_6 : decode cX7_init 6 = .ok (.putfield 7, 3) := by decide +kernel
theorem dX7_init_9 : decode cX7_init 9 = .ok (.aload_n 0, 1) := by decide +kernel
theorem dX7_init_10 : decode cX7_init 10 = .ok (.bipush 6, 2) := by decide +kernel
theorem dX7_init_12 : decode cX7_init 12 = .ok (.newarray .int, 2) := by decide +kernel
theorem dX7_init_14 : decode cX7_init 14 = .ok (.putfield 13, 3) := by decide +kernel
theorem dX7_init_17 : decode cX7_init 17 = .ok (.aload_n 0, 1) := by decide +kernel
theorem dX7_init_18 : decode cX7_init 18 = .ok (.bipush 18, 2) := by decide +kernel
theorem dX7_init_20 : decode cX7_init 20 = .ok (.newarray .int, 2) := by decide +kernel
theorem dX7_init_22 : decode cX7_init 22 = .ok (.putfield 17, 3) := by decide +kernel
theorem dX7_init_25 : decode cX7_init 25 = .ok (.aload_n 0, 1) := by decide +kernel
theorem dX7_init_26 : decode cX7_init 26 = .ok (.bipush 6, 2) := by decide +kernel
theorem dX7_init_28 : decode cX7_init 28 = .ok (.newarray .int, 2) := by decide +kernel
theorem dX7_init_30 : decode cX7_init 30 = .ok (.putfield 20, 3) := by decide +kernel
theorem dX7_init_33 : decode cX7_init 33 = .ok (.aload_n 0, 1) := by decide +kernel
theorem dX7_init_34 : decode cX7_init 34 = .ok (.bipush 40, 2) := by decide +kernel
theorem dX7_init_36 : decode cX7_init 36 = .ok (.newarray .int, 2) := by decide +kernel
theorem dX7_init_38 : decode cX7_init 38 = .ok (.putfield 23, 3) := by decide +kernel
theorem dX7_init_41 : decode cX7_init 41 = .ok (.aload_n 0, 1) := by decide +kernel
theorem dX7_init_42 : decode cX7_init 42 = .ok (.iconst (-1), 1) := by decide +kernel
theorem dX7_init_43 : decode cX7_init 43 = .ok (.putfield 26, 3) := by decide +kernel
theorem dX7_init_46 : decode cX7_init 46 = .ok (.aload_n 0, 1) := by decide +kernel
theorem dX7_init_47 : decode cX7_init 47 = .ok (.sipush 300, 3) := by decide +kernel
theorem dX7_init_50 : decode cX7_init 50 = .ok (.anewarray 29, 3) := by decide +kernel
theorem dX7_init_53 : decode cX7_init 53 = .ok (.putfield 30, 3) := by decide +kernel
theorem dX7_init_56 : decode cX7_init 56 = .ok (.aload_n 0, 1) := by decide +kernel
theorem dX7_init_57 : decode cX7_init 57 = .ok (.sipush 300, 3) := by decide +kernel
theorem dX7_init_60 : decode cX7_init 60 = .ok (.newarray .int, 2) := by decide +kernel
theorem dX7_init_62 : decode cX7_init 62 = .ok (.putfield 34, 3) := by decide +kernel
theorem dX7_init_65 : decode cX7_init 65 = .ok (.aload_n 0, 1) := by decide +kernel
theorem dX7_init_66 : decode cX7_init 66 = .ok (.sipush 300, 3) := by decide +kernel
theorem dX7_init_69 : decode cX7_init 69 = .ok (.newarray .int, 2) := by decide +kernel
theorem dX7_init_71 : decode cX7_init 71 = .ok (.putfield 37, 3) := by decide +kernel
theorem dX7_init_74 : decode cX7_init 74 = .ok (.aload_n 0, 1) := by decide +kernel
theorem dX7_init_75 : decode cX7_init 75 = .ok (.iconst 4, 1) := by decide +kernel
theorem dX7_init_76 : decode cX7_init 76 = .ok (.newarray .int, 2) := by decide +kernel
theorem dX7_init_78 : decode cX7_init 78 = .ok (.putfield 40, 3) := by decide +kernel
theorem dX7_init_81 : decode cX7_init 81 = .ok (.aload_n 0, 1) := by decide +kernel
theorem dX7_init_82 : decode cX7_init 82 = .ok (.sipush 1200, 3) := by decide +kernel
theorem dX7_init_85 : decode cX7_init 85 = .ok (.newarray .int, 2) := by decide +kernel
theorem dX7_init_87 : decode cX7_init 87 = .ok (.putfield 43, 3) := by decide +kernel
theorem dX7_init_90 : decode cX7_init 90 = .ok (.aload_n 0, 1) := by decide +kernel
theorem dX7_init_91 : decode cX7_init 91 = .ok (.bipush 40, 2) := by decide +kernel
theorem dX7_init_93 : decode cX7_init 93 = .ok (.newarray .int, 2) := by decide +kernel
theorem dX7_init_95 : decode cX7_init 95 = .ok (.putfield 46, 3) := by decide +kernel
theorem dX7_init_98 : decode cX7_init 98 = .ok (.aload_n 0, 1) := by decide +kernel
theorem dX7_init_99 : decode cX7_init 99 = .ok (.sipush 1200, 3) := by decide +kernel
theorem dX7_init_102 : decode cX7_init 102 = .ok (.newarray .int, 2) := by decide +kernel
theorem dX7_init_104 : decode cX7_init 104 = .ok (.putfield 49, 3) := by decide +kernel
theorem dX7_init_107 : decode cX7_init 107 = .ok (.return_, 1) := by decide +kernel
theorem dX7_thrown_0 : decode cX7_thrown 0 = .ok (.aload_n 0, 1) := by decide +kernel
theorem dX7_thrown_1 : decode cX7_thrown 1 = .ok (.getfield 52, 3) := by decide +kernel
theorem dX7_thrown_4 : decode cX7_thrown 4 = .ok (.ireturn, 1) := by decide +kernel
theorem dX7_fail_0 : decode cX7_fail 0 = .ok (.aload_n 0, 1) := by decide +kernel
theorem dX7_fail_1 : decode cX7_fail 1 = .ok (.iload_n 1, 1) := by decide +kernel
theorem dX7_fail_2 : decode cX7_fail 2 = .ok (.putfield 52, 3) := by decide +kernel
theorem dX7_fail_5 : decode cX7_fail 5 = .ok (.iconst 0, 1) := by decide +kernel
theorem dX7_fail_6 : decode cX7_fail 6 = .ok (.ireturn, 1) := by decide +kernel
theorem dX7_isIn_0 : decode cX7_isIn 0 = .ok (.iload_n 0, 1) := by decide +kernel
theorem dX7_isIn_1 : decode cX7_isIn 1 = .ok (.iload_n 1, 1) := by decide +kernel
theorem dX7_isIn_2 : decode cX7_isIn 2 = .ok (.if_icmp .lt 12, 3) := by decide +kernel
theorem dX7_isIn_5 : decode cX7_isIn 5 = .ok (.iload_n 0, 1) := by decide +kernel
theorem dX7_isIn_6 : decode cX7_isIn 6 = .ok (.iload_n 2, 1) := by decide +kernel
theorem dX7_isIn_7 : decode cX7_isIn 7 = .ok (.if_icmp .gt 7, 3) := by decide +kernel
theorem dX7_isIn_10 : decode cX7_isIn 10 = .ok (.iconst 1, 1) := by decide +kernel
theorem dX7_isIn_11 : decode cX7_isIn 11 = .ok (.goto 4, 3) := by decide +kernel
theorem dX7_isIn_14 : decode cX7_isIn 14 = .ok (.iconst 0, 1) := by decide +kernel
theorem dX7_isIn_15 : decode cX7_isIn 15 = .ok (.ireturn, 1) := by decide +kernel
theorem dX7_isType_0 : decode cX7_isType 0 = .ok (.iload_n 1, 1) := by decide +kernel
theorem dX7_isType_1 : decode cX7_isType 1 = .ok (.iconst 0, 1) := by decide +kernel
theorem dX7_isType_2 : decode cX7_isType 2 = .ok (.aload_n 0, 1) := by decide +kernel
theorem dX7_isType_3 : decode cX7_isType 3 = .ok (.getfield 55, 3) := by decide +kernel
theorem dX7_isType_6 : decode cX7_isType 6 = .ok (.iconst 1, 1) := by decide +kernel
theorem dX7_isType_7 : decode cX7_isType 7 = .ok (.isub, 1) := by decide +kernel
theorem dX7_isType_8 : decode cX7_isType 8 = .ok (.invokestatic 58, 3) := by decide +kernel
theorem dX7_isType_11 : decode cX7_isType 11 = .ok (.ireturn, 1) := by decide +kernel
theorem dX7_change_0 : decode cX7_change 0 = .ok (.aload_n 0, 1) := by decide +kernel
theorem dX7_change_1 : decode cX7_change 1 = .ok (.iconst 0, 1) := by decide +kernel
theorem dX7_change_2 : decode cX7_change 2 = .ok (.putfield 62, 3) := by decide +kernel
theorem dX7_change_5 : decode cX7_change 5 = .ok (.aload_n 0, 1) := by decide +kernel
theorem dX7_change_6 : decode cX7_change 6 = .ok (.iconst (-1), 1) := by decide +kernel
theorem dX7_change_7 : decode cX7_change 7 = .ok (.putfield 26, 3) := by decide +kernel
theorem dX7_change_10 : decode cX7_change 10 = .ok (.return_, 1) := by decide +kernel
theorem dX7_setRange_0 : decode cX7_setRange 0 = .ok (.aload_n 0, 1) := by decide +kernel
theorem dX7_setRange_1 : decode cX7_setRange 1 = .ok (.iload_n 1, 1) := by decide +kernel
theorem dX7_setRange_2 : decode cX7_setRange 2 = .ok (.ifCond .lt 13, 3) := by decide +kernel
theorem dX7_setRange_5 : decode cX7_setRange 5 = .ok (.iload_n 2, 1) := by decide +kernel
theorem dX7_setRange_6 : decode cX7_setRange 6 = .ok (.iconst 5, 1) := by decide +kernel
theorem dX7_setRange_7 : decode cX7_setRange 7 = .ok (.if_icmp .gt 8, 3) := by decide +kernel
theorem dX7_setRange_10 : decode cX7_setRange 10 = .ok (.iload_n 1, 1) := by decide +kernel
theorem dX7_setRange_11 : decode cX7_setRange 11 = .ok (.iload_n 2, 1) := by decide +kernel
theorem dX7_setRange_12 : decode cX7_setRange 12 = .ok (.if_icmp .le 7, 3) := by decide +kernel
theorem dX7_setRange_15 : decode cX7_setRange 15 = .ok (.iconst 1, 1) := by decide +kernel
theorem dX7_setRange_16 : decode cX7_setRange 16 = .ok (.goto 4, 3) := by decide +kernel
theorem dX7_setRange_19 : decode cX7_setRange 19 = .ok (.iconst 0, 1) := by decide +kernel
theorem dX7_setRange_20 : decode cX7_setRange 20 = .ok (.putfield 52, 3) := by decide +kernel
theorem dX7_setRange_23 : decode cX7_setRange 23 = .ok (.aload_n 0, 1) := by decide +kernel
theorem dX7_setRange_24 : decode cX7_setRange 24 = .ok (.getfield 52, 3) := by decide +kernel
theorem dX7_setRange_27 : decode cX7_setRange 27 = .ok (.ifCond .eq 5, 3) := by decide +kernel
theorem dX7_setRange_30 : decode cX7_setRange 30 = .ok (.iconst 0, 1) := by decide +kernel
theorem dX7_setRange_31 : decode cX7_setRange 31 = .ok (.ireturn, 1) := by decide +kernel
theorem dX7_setRange_32 : decode cX7_setRange 32 = .ok (.aload_n 0, 1) := by decide +kernel
theorem dX7_setRange_33 : decode cX7_setRange 33 = .ok (.getfield 66, 3) := by decide +kernel
theorem dX7_setRange_36 : decode cX7_setRange 36 = .ok (.iload_n 1, 1) := by decide +kernel
theorem dX7_setRange_37 : decode cX7_setRange 37 = .ok (.if_icmp .ne 11, 3) := by decide +kernel
theorem dX7_setRange_40 : decode cX7_setRange 40 = .ok (.aload_n 0, 1) := by decide +kernel
theorem dX7_setRange_41 : decode cX7_setRange 41 = .ok (.getfield 7, 3) := by decide +kernel
theorem dX7_setRange_44 : decode cX7_setRange 44 = .ok (.iload_n 2, 1) := by decide +kernel
theorem dX7_setRange_45 : decode cX7_setRange 45 = .ok (.if_icmp .eq 7, 3) := by decide +kernel
theorem dX7_setRange_48 : decode cX7_setRange 48 = .ok (.iconst 1, 1) := by decide +kernel
theorem dX7_setRange_49 : decode cX7_setRange 49 = .ok (.goto 4, 3) := by decide +kernel
theorem dX7_setRange_52 : decode cX7_setRange 52 = .ok (.iconst 0, 1) := by decide +kernel
theorem dX7_setRange_53 : decode cX7_setRange 53 = .ok (.istore_n 3, 1) := by decide +kernel
theorem dX7_setRange_54 : decode cX7_setRange 54 = .ok (.aload_n 0, 1) := by decide +kernel
theorem dX7_setRange_55 : decode cX7_setRange 55 = .ok (.iload_n 1, 1) := by decide +kernel
theorem dX7_setRange_56 : decode cX7_setRange 56 = .ok (.putfield 66, 3) := by decide +kernel
theorem dX7_setRange_59 : decode cX7_setRange 59 = .ok (.aload_n 0, 1) := by decide +kernel
theorem dX7_setRange_60 : decode cX7_setRange 60 = .ok (.iload_n 2, 1) := by decide +kernel
theorem dX7_setRange_61 : decode cX7_setRange 61 = .ok (.putfield 7, 3) := by decide +kernel
theorem dX7_setRange_64 : decode cX7_setRange 64 = .ok (.aload_n 0, 1) := by decide +kernel
theorem dX7_setRange_65 : decode cX7_setRange 65 = .ok (.invokevirtual 69, 3) := by decide +kernel
theorem dX7_setRange_68 : decode cX7_setRange 68 = .ok (.iload_n 3, 1) := by decide +kernel
theorem dX7_setRange_69 : decode cX7_setRange 69 = .ok (.ireturn, 1) := by decide +kernel
theorem dX7_addType_0 : decode cX7_addType 0 = .ok (.aload_n 0, 1) := by decide +kernel
theorem dX7_addType_1 : decode cX7_addType 1 = .ok (.iconst 0, 1) := by decide +kernel
theorem dX7_addType_2 : decode cX7_addType 2 = .ok (.putfield 52, 3) := by decide +kernel
theorem dX7_addType_5 : decode cX7_addType 5 = .ok (.aload_n 0, 1) := by decide +kernel
theorem dX7_addType_6 : decode cX7_addType 6 = .ok (.getfield 55, 3) := by decide +kernel
theorem dX7_addType_9 : decode cX7_addType 9 = .ok (.iconst 4, 1) := by decide +kernel
theorem dX7_addType_10 : decode cX7_addType 10 = .ok (.if_icmp .ne 9, 3) := by decide +kernel
theorem dX7_addType_13 : decode cX7_addType 13 = .ok (.aload_n 0, 1) := by decide +kernel
theorem dX7_addType_14 : decode cX7_addType 14 = .ok (.iconst 1, 1) := by decide +kernel
theorem dX7_addType_15 : decode cX7_addType 15 = .ok (.invokevirtual 72, 3) := by decide +kernel
theorem dX7_addType_18 : decode cX7_addType 18 = .ok (.ireturn, 1) := by decide +kernel
theorem dX7_addType_19 : decode cX7_addType 19 = .ok (.aload_n 0, 1) := by decide +kernel
theorem dX7_addType_20 : decode cX7_addType 20 = .ok (.dup, 1) := by decide +kernel
theorem dX7_addType_21 : decode cX7_addType 21 = .ok (.getfield 55, 3) := by decide +kernel
theorem dX7_addType_24 : decode cX7_addType 24 = .ok (.iconst 1, 1) := by decide +kernel
theorem dX7_addType_25 : decode cX7_addType 25 = .ok (.iadd, 1) := by decide +kernel
theorem dX7_addType_26 : decode cX7_addType 26 = .ok (.putfield 55, 3) := by decide +kernel
theorem dX7_addType_29 : decode cX7_addType 29 = .ok (.aload_n 0, 1) := by decide +kernel
theorem dX7_addType_30 : decode cX7_addType 30 = .ok (.invokevirtual 69, 3) := by decide +kernel
theorem dX7_addType_33 : decode cX7_addType 33 = .ok (.aload_n 0, 1) := by decide +kernel
theorem dX7_addType_34 : decode cX7_addType 34 = .ok (.getfield 55, 3) := by decide +kernel
theorem dX7_addType_37 : decode cX7_addType 37 = .ok (.iconst 1, 1) := by decide +kernel
theorem dX7_addType_38 : decode cX7_addType 38 = .ok (.isub, 1) := by decide +kernel
theorem dX7_addType_39 : decode cX7_addType 39 = .ok (.ireturn, 1) := by decide +kernel
theorem dX7_addConstructor_0 : decode cX7_addConstructor 0 = .ok (.aload_n 0, 1) := by decide +kernel
theorem dX7_addConstructor_1 : decode cX7_addConstructor 1 = .ok (.iconst 0, 1) := by decide +kernel
theorem dX7_addConstructor_2 : decode cX7_addConstructor 2 = .ok (.putfield 52, 3) := by decide +kernel
theorem dX7_addConstructor_5 : decode cX7_addConstructor 5 = .ok (.aload_n 0, 1) := by decide +kernel
theorem dX7_addConstructor_6 : decode cX7_addConstructor 6 = .ok (.iload_n 1, 1) := by decide +kernel
theorem dX7_addConstructor_7 : decode cX7_addConstructor 7 = .ok (.invokevirtual 76, 3) := by decide +kernel
theorem dX7_addConstructor_10 : decode cX7_addConstructor 10 = .ok (.ifCond .ne 9, 3) := by decide +kernel
theorem dX7_addConstructor_13 : decode cX7_addConstructor 13 = .ok (.aload_n 0, 1) := by decide +kernel
theorem dX7_addConstructor_14 : decode cX7_addConstructor 14 = .ok (.iconst 1, 1) := by decide +kernel
theorem dX7_addConstructor_15 : decode cX7_addConstructor 15 = .ok (.invokevirtual 72, 3) := by decide +kernel
theorem dX7_addConstructor_18 : decode cX7_addConstructor 18 = .ok (.ireturn, 1) := by decide +kernel
theorem dX7_addConstructor_19 : decode cX7_addConstructor 19 = .ok (.iconst 3, 1) := by decide +kernel
theorem dX7_addConstructor_20 : decode cX7_addConstructor 20 = .ok (.newarray .int, 2) := by decide +kernel
theorem dX7_addConstructor_22 : decode cX7_addConstructor 22 = .ok (.dup, 1) := by decide +kernel
theorem dX7_addConstructor_23 : decode cX7_addConstructor 23 = .ok (.iconst 0, 1) := by decide +kernel
theorem dX7_addConstructor_24 : decode cX7_addConstructor 24 = .ok (.iload_n 2, 1) := by decide +kernel
theorem dX7_addConstructor_25 : decode cX7_addConstructor 25 = .ok (.iastore, 1) := by decide +kernel
theorem dX7_addConstructor_26 : decode cX7_addConstructor 26 = .ok (.dup, 1) := by decide +kernel
theorem dX7_addConstructor_27 : decode cX7_addConstructor 27 = .ok (.iconst 1, 1) := by decide +kernel
theorem dX7_addConstructor_28 : decode cX7_addConstructor 28 = .ok (.iload_n 3, 1) := by decide +kernel
theorem dX7_addConstructor_29 : decode cX7_addConstructor 29 = .ok (.iastore, 1) := by decide +kernel
theorem dX7_addConstructor_30 : decode cX7_addConstructor 30 = .ok (.dup, 1) := by decide +kernel
theorem dX7_addConstructor_31 : decode cX7_addConstructor 31 = .ok (.iconst 2, 1) := by decide +kernel
theorem dX7_addConstructor_32 : decode cX7_addConstructor 32 = .ok (.iload 4, 2) := by decide +kernel
theorem dX7_addConstructor_34 : decode cX7_addConstructor 34 = .ok (.iastore, 1) := by decide +kernel
theorem dX7_addConstructor_35 : decode cX7_addConstructor 35 = .ok (.astore 6, 2) := by decide +kernel
theorem dX7_addConstructor_37 : decode cX7_addConstructor 37 = .ok (.iconst 0, 1) := by decide +kernel
theorem dX7_addConstructor_38 : decode cX7_addConstructor 38 = .ok (.istore 7, 2) := by decide +kernel
theorem dX7_addConstructor_40 : decode cX7_addConstructor 40 = .ok (.iload 5, 2) := by decide +kernel
theorem dX7_addConstructor_42 : decode cX7_addConstructor 42 = .ok (.iconst 0, 1) := by decide +kernel
theorem dX7_addConstructor_43 : decode cX7_addConstructor 43 = .ok (.iconst 5, 1) := by decide +kernel
theorem dX7_addConstructor_44 : decode cX7_addConstructor 44 = .ok (.invokestatic 58, 3) := by decide +kernel
theorem dX7_addConstructor_47 : decode cX7_addConstructor 47 = .ok (.istore 8, 2) := by decide +kernel
theorem dX7_addConstructor_49 : decode cX7_addConstructor 49 = .ok (.iconst 0, 1) := by decide +kernel
theorem dX7_addConstructor_50 : decode cX7_addConstructor 50 = .ok (.istore 9, 2) := by decide +kernel
theorem dX7_addConstructor_52 : decode cX7_addConstructor 52 = .ok (.iload 9, 2) := by decide +kernel
theorem dX7_addConstructor_54 : decode cX7_addConstructor 54 = .ok (.iconst 3, 1) := by decide +kernel
theorem dX7_addConstructor_55 : decode cX7_addConstructor 55 = .ok (.if_icmp .ge 111, 3) := by decide +kernel
theorem dX7_addConstructor_58 : decode cX7_addConstructor 58 = .ok (.iload 8, 2) := by decide +kernel
theorem dX7_addConstructor_60 : decode cX7_addConstructor 60 = .ok (.ifCond .eq 38, 3) := by decide +kernel
theorem dX7_addConstructor_63 : decode cX7_addConstructor 63 = .ok (.aload_n 0, 1) := by decide +kernel
theorem dX7_addConstructor_64 : decode cX7_addConstructor 64 = .ok (.aload 6, 2) := by decide +kernel
theorem dX7_addConstructor_66 : decode cX7_addConstructor 66 = .ok (.iload 9, 2) := by decide +kernel
theorem dX7_addConstructor_68 : decode cX7_addConstructor 68 = .ok (.iaload, 1) := by decide +kernel
theorem dX7_addConstructor_69 : decode cX7_addConstructor 69 = .ok (.invokevirtual 76, 3) := by decide +kernel
theorem dX7_addConstructor_72 : decode cX7_addConstructor 72 = .ok (.ifCond .ne 22, 3) := by decide +kernel
theorem dX7_addConstructor_75 : decode cX7_addConstructor 75 = .ok (.aload 6, 2) := by decide +kernel
theorem dX7_addConstructor_77 : decode cX7_addConstructor 77 = .ok (.iload 9, 2) := by decide +kernel
theorem dX7_addConstructor_79 : decode cX7_addConstructor 79 = .ok (.iaload, 1) := by decide +kernel
theorem dX7_addConstructor_80 : decode cX7_addConstructor 80 = .ok (.bipush 9, 2) := by decide +kernel
theorem dX7_addConstructor_82 : decode cX7_addConstructor 82 = .ok (.if_icmp .eq 12, 3) := by decide +kernel
theorem dX7_addConstructor_85 : decode cX7_addConstructor 85 = .ok (.aload 6, 2) := by decide +kernel
theorem dX7_addConstructor_87 : decode cX7_addConstructor 87 = .ok (.iload 9, 2) := by decide +kernel
theorem dX7_addConstructor_89 : decode cX7_addConstructor 89 = .ok (.iaload, 1) := by decide +kernel
theorem dX7_addConstructor_90 : decode cX7_addConstructor 90 = .ok (.iconst (-1), 1) := by decide +kernel
theorem dX7_addConstructor_91 : decode cX7_addConstructor 91 = .ok (.if_icmp .ne 7, 3) := by decide +kernel
theorem dX7_addConstructor_94 : decode cX7_addConstructor 94 = .ok (.iconst 1, 1) := by decide +kernel
theorem dX7_addConstructor_95 : decode cX7_addConstructor 95 = .ok (.goto 4, 3) := by decide +kernel
theorem dX7_addConstructor_98 : decode cX7_addConstructor 98 = .ok (.iconst 0, 1) := by decide +kernel
theorem dX7_addConstructor_99 : decode cX7_addConstructor 99 = .ok (.istore 8, 2) := by decide +kernel
theorem dX7_addConstructor_101 : decode cX7_addConstructor 101 = .ok (.iload 8, 2) := by decide +kernel
theorem dX7_addConstructor_103 : decode cX7_addConstructor 103 = .ok (.ifCond .eq 32, 3) := by decide +kernel
theorem dX7_addConstructor_106 : decode cX7_addConstructor 106 = .ok (.iload 9, 2) := by decide +kernel
theorem dX7_addConstructor_108 : decode cX7_addConstructor 108 = .ok (.ifCond .eq 23, 3) := by decide +kernel
theorem dX7_addConstructor_111 : decode cX7_addConstructor 111 = .ok (.aload 6, 2) := by decide +kernel
theorem dX7_addConstructor_113 : decode cX7_addConstructor 113 = .ok (.iload 9, 2) := by decide +kernel
theorem dX7_addConstructor_115 : decode cX7_addConstructor 115 = .ok (.iconst 1, 1) := by decide +kernel
theorem dX7_addConstructor_116 : decode cX7_addConstructor 116 = .ok (.isub, 1) := by decide +kernel
theorem dX7_addConstructor_117 : decode cX7_addConstructor 117 = .ok (.iaload, 1) := by decide +kernel
theorem dX7_addConstructor_118 : decode cX7_addConstructor 118 = .ok (.iconst (-1), 1) := by decide +kernel
theorem dX7_addConstructor_119 : decode cX7_addConstructor 119 = .ok (.if_icmp .ne 12, 3) := by decide +kernel
theorem dX7_addConstructor_122 : decode cX7_addConstructor 122 = .ok (.aload 6, 2) := by decide +kernel
theorem dX7_addConstructor_124 : decode cX7_addConstructor 124 = .ok (.iload 9, 2) := by decide +kernel
theorem dX7_addConstructor_126 : decode cX7_addConstructor 126 = .ok (.iaload, 1) := by decide +kernel
theorem dX7_addConstructor_127 : decode cX7_addConstructor 127 = .ok (.iconst (-1), 1) := by decide +kernel
theorem dX7_addConstructor_128 : decode cX7_addConstructor 128 = .ok (.if_icmp .ne 7, 3) := by decide +kernel
theorem dX7_addConstructor_131 : decode cX7_addConstructor 131 = .ok (.iconst 1, 1) := by decide +kernel
theorem dX7_addConstructor_132 : decode cX7_addConstructor 132 = .ok (.goto 4, 3) := by decide +kernel
theorem dX7_addConstructor_135 : decode cX7_addConstructor 135 = .ok (.iconst 0, 1) := by decide +kernel
theorem dX7_addConstructor_136 : decode cX7_addConstructor 136 = .ok (.istore 8, 2) := by decide +kernel
theorem dX7_addConstructor_138 : decode cX7_addConstructor 138 = .ok (.iload 7, 2) := by decide +kernel
theorem dX7_addConstructor_140 : decode cX7_addConstructor 140 = .ok (.aload_n 0, 1) := by decide +kernel
theorem dX7_addConstructor_141 : decode cX7_addConstructor 141 = .ok (.aload 6, 2) := by decide +kernel
theorem dX7_addConstructor_143 : decode cX7_addConstructor 143 = .ok (.iload 9, 2) := by decide +kernel
theorem dX7_addConstructor_145 : decode cX7_addConstructor 145 = .ok (.iaload, 1) := by decide +kernel
theorem dX7_addConstructor_146 : decode cX7_addConstructor 146 = .ok (.invokevirtual 76, 3) := by decide +kernel
theorem dX7_addConstructor_149 : decode cX7_addConstructor 149 = .ok (.ifCond .eq 7, 3) := by decide +kernel
theorem dX7_addConstructor_152 : decode cX7_addConstructor 152 = .ok (.iconst 1, 1) := by decide +kernel
theorem dX7_addConstructor_153 : decode cX7_addConstructor 153 = .ok (.goto 4, 3) := by decide +kernel
theorem dX7_addConstructor_156 : decode cX7_addConstructor 156 = .ok (.iconst 0, 1) := by decide +kernel
theorem dX7_addConstructor_157 : decode cX7_addConstructor 157 = .ok (.iadd, 1) := by decide +kernel
theorem dX7_addConstructor_158 : decode cX7_addConstructor 158 = .ok (.istore 7, 2) := by decide +kernel
theorem dX7_addConstructor_160 : decode cX7_addConstructor 160 = .ok (.iinc 9 1, 3) := by decide +kernel
theorem dX7_addConstructor_163 : decode cX7_addConstructor 163 = .ok (.goto (-111), 3) := by decide +kernel
theorem dX7_addConstructor_166 : decode cX7_addConstructor 166 = .ok (.iload 8, 2) := by decide +kernel
theorem dX7_addConstructor_168 : decode cX7_addConstructor 168 = .ok (.ifCond .eq 9, 3) := by decide +kernel
theorem dX7_addConstructor_171 : decode cX7_addConstructor 171 = .ok (.iload 7, 2) := by decide +kernel
theorem dX7_addConstructor_173 : decode cX7_addConstructor 173 = .ok (.iconst 3, 1) := by decide +kernel
theorem dX7_addConstructor_174 : decode cX7_addConstructor 174 = .ok (.if_icmp .ne 9, 3) := by decide +kernel
theorem dX7_addConstructor_177 : decode cX7_addConstructor 177 = .ok (.aload_n 0, 1) := by decide +kernel
theorem dX7_addConstructor_178 : decode cX7_addConstructor 178 = .ok (.iconst 2, 1) := by decide +kernel
theorem dX7_addConstructor_179 : decode cX7_addConstructor 179 = .ok (.invokevirtual 72, 3) := by decide +kernel
theorem dX7_addConstructor_182 : decode cX7_addConstructor 182 = .ok (.ireturn, 1) := by decide +kernel
theorem dX7_addConstructor_183 : decode cX7_addConstructor 183 = .ok (.aload_n 0, 1) := by decide +kernel
theorem dX7_addConstructor_184 : decode cX7_addConstructor 184 = .ok (.getfield 80, 3) := by decide +kernel
theorem dX7_addConstructor_187 : decode cX7_addConstructor 187 = .ok (.bipush 6, 2) := by decide +kernel
theorem dX7_addConstructor_189 : decode cX7_addConstructor 189 = .ok (.if_icmp .ne 9, 3) := by decide +kernel
theorem dX7_addConstructor_192 : decode cX7_addConstructor 192 = .ok (.aload_n 0, 1) := by decide +kernel
theorem dX7_addConstructor_193 : decode cX7_addConstructor 193 = .ok (.iconst 3, 1) := by decide +kernel
theorem dX7_addConstructor_194 : decode cX7_addConstructor 194 = .ok (.invokevirtual 72, 3) := by decide +kernel
theorem dX7_addConstructor_197 : decode cX7_addConstructor 197 = .ok (.ireturn, 1) := by decide +kernel
theorem dX7_addConstructor_198 : decode cX7_addConstructor 198 = .ok (.aload_n 0, 1) := by decide +kernel
theorem dX7_addConstructor_199 : decode cX7_addConstructor 199 = .ok (.getfield 13, 3) := by decide +kernel
theorem dX7_addConstructor_202 : decode cX7_addConstructor 202 = .ok (.aload_n 0, 1) := by decide +kernel
theorem dX7_addConstructor_203 : decode cX7_addConstructor 203 = .ok (.getfield 80, 3) := by decide +kernel
theorem dX7_addConstructor_206 : decode cX7_addConstructor 206 = .ok (.iload_n 1, 1) := by decide +kernel
theorem dX7_addConstructor_207 : decode cX7_addConstructor 207 = .ok (.iastore, 1) := by decide +kernel
theorem dX7_addConstructor_208 : decode cX7_addConstructor 208 = .ok (.iconst 0, 1) := by decide +kernel
theorem dX7_addConstructor_209 : decode cX7_addConstructor 209 = .ok (.istore 9, 2) := by decide +kernel
theorem dX7_addConstructor_211 : decode cX7_addConstructor 211 = .ok (.iload 9, 2) := by decide +kernel
theorem dX7_addConstructor_213 : decode cX7_addConstructor 213 = .ok (.iconst 3, 1) := by decide +kernel
theorem dX7_addConstructor_214 : decode cX7_addConstructor 214 = .ok (.if_icmp .ge 28, 3) := by decide +kernel
theorem dX7_addConstructor_217 : decode cX7_addConstructor 217 = .ok (.aload_n 0, 1) := by decide +kernel
theorem dX7_addConstructor_218 : decode cX7_addConstructor 218 = .ok (.getfield 17, 3) := by decide +kernel
theorem dX7_addConstructor_221 : decode cX7_addConstructor 221 = .ok (.iconst 3, 1) := by decide +kernel
theorem dX7_addConstructor_222 : decode cX7_addConstructor 222 = .ok (.aload_n 0, 1) := by decide +kernel
theorem dX7_addConstructor_223 : decode cX7_addConstructor 223 = .ok (.getfield 80, 3) := by decide +kernel
theorem dX7_addConstructor_226 : decode cX7_addConstructor 226 = .ok (.imul, 1) := by decide +kernel
theorem dX7_addConstructor_227 : decode cX7_addConstructor 227 = .ok (.iload 9, 2) := by decide +kernel
theorem dX7_addConstructor_229 : decode cX7_addConstructor 229 = .ok (.iadd, 1) := by decide +kernel
theorem dX7_addConstructor_230 : decode cX7_addConstructor 230 = .ok (.aload 6, 2) := by decide +kernel
theorem dX7_addConstructor_232 : decode cX7_addConstructor 232 = .ok (.iload 9, 2) := by decide +kernel
theorem dX7_addConstructor_234 : decode cX7_addConstructor 234 = .ok (.iaload, 1) := by decide +kernel
theorem dX7_addConstructor_235 : decode cX7_addConstructor 235 = .ok (.iastore, 1) := by decide +kernel
theorem dX7_addConstructor_236 : decode cX7_addConstructor 236 = .ok (.iinc 9 1, 3) := by decide +kernel
theorem dX7_addConstructor_239 : decode cX7_addConstructor 239 = .ok (.goto (-28), 3) := by decide +kernel
theorem dX7_addConstructor_242 : decode cX7_addConstructor 242 = .ok (.aload_n 0, 1) := by decide +kernel
theorem dX7_addConstructor_243 : decode cX7_addConstructor 243 = .ok (.getfield 20, 3) := by decide +kernel
theorem dX7_addConstructor_246 : decode cX7_addConstructor 246 = .ok (.aload_n 0, 1) := by decide +kernel
theorem dX7_addConstructor_247 : decode cX7_addConstructor 247 = .ok (.getfield 80, 3) := by decide +kernel
theorem dX7_addConstructor_250 : decode cX7_addConstructor 250 = .ok (.iload 5, 2) := by decide +kernel
theorem dX7_addConstructor_252 : decode cX7_addConstructor 252 = .ok (.iastore, 1) := by decide +kernel
theorem dX7_addConstructor_253 : decode cX7_addConstructor 253 = .ok (.aload_n 0, 1) := by decide +kernel
theorem dX7_addConstructor_254 : decode cX7_addConstructor 254 = .ok (.dup, 1) := by decide +kernel
theorem dX7_addConstructor_255 : decode cX7_addConstructor 255 = .ok (.getfield 80, 3) := by decide +kernel
theorem dX7_addConstructor_258 : decode cX7_addConstructor 258 = .ok (.iconst 1, 1) := by decide +kernel
theorem dX7_addConstructor_259 : decode cX7_addConstructor 259 = .ok (.iadd, 1) := by decide +kernel
theorem dX7_addConstructor_260 : decode cX7_addConstructor 260 = .ok (.putfield 80, 3) := by decide +kernel
theorem dX7_addConstructor_263 : decode cX7_addConstructor 263 = .ok (.aload_n 0, 1) := by decide +kernel
theorem dX7_addConstructor_264 : decode cX7_addConstructor 264 = .ok (.invokevirtual 69, 3) := by decide +kernel
theorem dX7_addConstructor_267 : decode cX7_addConstructor 267 = .ok (.aload_n 0, 1) := by decide +kernel
theorem dX7_addConstructor_268 : decode cX7_addConstructor 268 = .ok (.getfield 80, 3) := by decide +kernel
theorem dX7_addConstructor_271 : decode cX7_addConstructor 271 = .ok (.iconst 1, 1) := by decide +kernel
theorem dX7_addConstructor_272 : decode cX7_addConstructor 272 = .ok (.isub, 1) := by decide +kernel
theorem dX7_addConstructor_273 : decode cX7_addConstructor 273 = .ok (.ireturn, 1) := by decide +kernel
theorem dX7_typeCount_0 : decode cX7_typeCount 0 = .ok (.aload_n 0, 1) := by decide +kernel
theorem dX7_typeCount_1 : decode cX7_typeCount 1 = .ok (.iconst 0, 1) := by decide +kernel
theorem dX7_typeCount_2 : decode cX7_typeCount 2 = .ok (.putfield 52, 3) := by decide +kernel
theorem dX7_typeCount_5 : decode cX7_typeCount 5 = .ok (.aload_n 0, 1) := by decide +kernel
theorem dX7_typeCount_6 : decode cX7_typeCount 6 = .ok (.getfield 55, 3) := by decide +kernel
theorem dX7_typeCount_9 : decode cX7_typeCount 9 = .ok (.ireturn, 1) := by decide +kernel
theorem dX7_look_0 : decode cX7_look 0 = .ok (.iload_n 3, 1) := by decide +kernel
theorem dX7_look_1 : decode cX7_look 1 = .ok (.iload_n 2, 1) := by decide +kernel
theorem dX7_look_2 : decode cX7_look 2 = .ok (.if_icmp .ge 38, 3) := by decide +kernel
theorem dX7_look_5 : decode cX7_look 5 = .ok (.aload_n 1, 1) := by decide +kernel
theorem dX7_look_6 : decode cX7_look 6 = .ok (.iload_n 3, 1) := by decide +kernel
theorem dX7_look_7 : decode cX7_look 7 = .ok (.iaload, 1) := by decide +kernel
theorem dX7_look_8 : decode cX7_look 8 = .ok (.bipush 100, 2) := by decide +kernel
theorem dX7_look_10 : decode cX7_look 10 = .ok (.isub, 1) := by decide +kernel
theorem dX7_look_11 : decode cX7_look 11 = .ok (.iconst 0, 1) := by decide +kernel
theorem dX7_look_12 : decode cX7_look 12 = .ok (.aload_n 0, 1) := by decide +kernel
theorem dX7_look_13 : decode cX7_look 13 = .ok (.getfield 80, 3) := by decide +kernel
theorem dX7_look_16 : decode cX7_look 16 = .ok (.iconst 1, 1) := by decide +kernel
theorem dX7_look_17 : decode cX7_look 17 = .ok (.isub, 1) := by decide +kernel
theorem dX7_look_18 : decode cX7_look 18 = .ok (.invokestatic 58, 3) := by decide +kernel
theorem dX7_look_21 : decode cX7_look 21 = .ok (.ifCond .eq 19, 3) := by decide +kernel
theorem dX7_look_24 : decode cX7_look 24 = .ok (.aload_n 0, 1) := by decide +kernel
theorem dX7_look_25 : decode cX7_look 25 = .ok (.getfield 13, 3) := by decide +kernel
theorem dX7_look_28 : decode cX7_look 28 = .ok (.aload_n 1, 1) := by decide +kernel
theorem dX7_look_29 : decode cX7_look 29 = .ok (.iload_n 3, 1) := by decide +kernel
theorem dX7_look_30 : decode cX7_look 30 = .ok (.iaload, 1) := by decide +kernel
theorem dX7_look_31 : decode cX7_look 31 = .ok (.bipush 100, 2) := by decide +kernel
theorem dX7_look_33 : decode cX7_look 33 = .ok (.isub, 1) := by decide +kernel
theorem dX7_look_34 : decode cX7_look 34 = .ok (.iaload, 1) := by decide +kernel
theorem dX7_look_35 : decode cX7_look 35 = .ok (.iload 4, 2) := by decide +kernel
theorem dX7_look_37 : decode cX7_look 37 = .ok (.if_icmp .eq 5, 3) := by decide +kernel
theorem dX7_look_40 : decode cX7_look 40 = .ok (.iconst (-1), 1) := by decide +kernel
theorem dX7_look_41 : decode cX7_look 41 = .ok (.ireturn, 1) := by decide +kernel
theorem dX7_look_42 : decode cX7_look 42 = .ok (.aload_n 1, 1) := by decide +kernel
theorem dX7_look_43 : decode cX7_look 43 = .ok (.iload_n 3, 1) := by decide +kernel
theorem dX7_look_44 : decode cX7_look 44 = .ok (.iaload, 1) := by decide +kernel
theorem dX7_look_45 : decode cX7_look 45 = .ok (.bipush 100, 2) := by decide +kernel
theorem dX7_look_47 : decode cX7_look 47 = .ok (.isub, 1) := by decide +kernel
theorem dX7_look_48 : decode cX7_look 48 = .ok (.istore 5, 2) := by decide +kernel
theorem dX7_look_50 : decode cX7_look 50 = .ok (.iload_n 3, 1) := by decide +kernel
theorem dX7_look_51 : decode cX7_look 51 = .ok (.iconst 1, 1) := by decide +kernel
theorem dX7_look_52 : decode cX7_look 52 = .ok (.iadd, 1) := by decide +kernel
theorem dX7_look_53 : decode cX7_look 53 = .ok (.istore 6, 2) := by decide +kernel
theorem dX7_look_55 : decode cX7_look 55 = .ok (.iconst 1, 1) := by decide +kernel
theorem dX7_look_56 : decode cX7_look 56 = .ok (.istore 7, 2) := by decide +kernel
theorem dX7_look_58 : decode cX7_look 58 = .ok (.sipush 320, 3) := by decide +kernel
theorem dX7_look_61 : decode cX7_look 61 = .ok (.istore 8, 2) := by decide +kernel
theorem dX7_look_63 : decode cX7_look 63 = .ok (.iconst 0, 1) := by decide +kernel
theorem dX7_look_64 : decode cX7_look 64 = .ok (.istore 9, 2) := by decide +kernel
theorem dX7_look_66 : decode cX7_look 66 = .ok (.iconst 0, 1) := by decide +kernel
theorem dX7_look_67 : decode cX7_look 67 = .ok (.istore 10, 2) := by decide +kernel
theorem dX7_look_69 : decode cX7_look 69 = .ok (.iload 10, 2) := by decide +kernel
theorem dX7_look_71 : decode cX7_look 71 = .ok (.iconst 3, 1) := by decide +kernel
theorem dX7_look_72 : decode cX7_look 72 = .ok (.if_icmp .ge 129, 3) := by decide +kernel
theorem dX7_look_75 : decode cX7_look 75 = .ok (.aload_n 0, 1) := by decide +kernel
theorem dX7_look_76 : decode cX7_look 76 = .ok (.getfield 17, 3) := by decide +kernel
theorem dX7_look_79 : decode cX7_look 79 = .ok (.iconst 3, 1) := by decide +kernel
theorem dX7_look_80 : decode cX7_look 80 = .ok (.iload 5, 2) := by decide +kernel
theorem dX7_look_82 : decode cX7_look 82 = .ok (.imul, 1) := by decide +kernel
theorem dX7_look_83 : decode cX7_look 83 = .ok (.iload 10, 2) := by decide +kernel
theorem dX7_look_85 : decode cX7_look 85 = .ok (.iadd, 1) := by decide +kernel
theorem dX7_look_86 : decode cX7_look 86 = .ok (.iaload, 1) := by decide +kernel
theorem dX7_look_87 : decode cX7_look 87 = .ok (.iconst (-1), 1) := by decide +kernel
theorem dX7_look_88 : decode cX7_look 88 = .ok (.if_icmp .eq 113, 3) := by decide +kernel
theorem dX7_look_91 : decode cX7_look 91 = .ok (.aload_n 0, 1) := by decide +kernel
theorem dX7_look_92 : decode cX7_look 92 = .ok (.getfield 17, 3) := by decide +kernel
theorem dX7_look_95 : decode cX7_look 95 = .ok (.iconst 3, 1) := by decide +kernel
theorem dX7_look_96 : decode cX7_look 96 = .ok (.iload 5, 2) := by decide +kernel
theorem dX7_look_98 : decode cX7_look 98 = .ok (.imul, 1) := by decide +kernel
theorem dX7_look_99 : decode cX7_look 99 = .ok (.iload 10, 2) := by decide +kernel
theorem dX7_look_101 : decode cX7_look 101 = .ok (.iadd, 1) := by decide +kernel
theorem dX7_look_102 : decode cX7_look 102 = .ok (.iaload, 1) := by decide +kernel
theorem dX7_look_103 : decode cX7_look 103 = .ok (.istore 11, 2) := by decide +kernel
theorem dX7_look_105 : decode cX7_look 105 = .ok (.iload 11, 2) := by decide +kernel
theorem dX7_look_107 : decode cX7_look 107 = .ok (.bipush 9, 2) := by decide +kernel
theorem dX7_look_109 : decode cX7_look 109 = .ok (.if_icmp .ne 35, 3) := by decide +kernel
theorem dX7_look_112 : decode cX7_look 112 = .ok (.iload 6, 2) := by decide +kernel
theorem dX7_look_114 : decode cX7_look 114 = .ok (.iload_n 2, 1) := by decide +kernel
theorem dX7_look_115 : decode cX7_look 115 = .ok (.if_icmp .ge 21, 3) := by decide +kernel
theorem dX7_look_118 : decode cX7_look 118 = .ok (.aload_n 1, 1) := by decide +kernel
theorem dX7_look_119 : decode cX7_look 119 = .ok (.iload 6, 2) := by decide +kernel
theorem dX7_look_121 : decode cX7_look 121 = .ok (.iaload, 1) := by decide +kernel
theorem dX7_look_122 : decode cX7_look 122 = .ok (.aload_n 0, 1) := by decide +kernel
theorem dX7_look_123 : decode cX7_look 123 = .ok (.getfield 66, 3) := by decide +kernel
theorem dX7_look_126 : decode cX7_look 126 = .ok (.aload_n 0, 1) := by decide +kernel
theorem dX7_look_127 : decode cX7_look 127 = .ok (.getfield 7, 3) := by decide +kernel
theorem dX7_look_130 : decode cX7_look 130 = .ok (.invokestatic 58, 3) := by decide +kernel
theorem dX7_look_133 : decode cX7_look 133 = .ok (.ifCond .ne 5, 3) := by decide +kernel
theorem dX7_look_136 : decode cX7_look 136 = .ok (.iconst (-1), 1) := by decide +kernel
theorem dX7_look_137 : decode cX7_look 137 = .ok (.ireturn, 1) := by decide +kernel
theorem dX7_look_138 : decode cX7_look 138 = .ok (.iinc 6 1, 3) := by decide +kernel
theorem dX7_look_141 : decode cX7_look 141 = .ok (.goto 54, 3) := by decide +kernel
theorem dX7_look_144 : decode cX7_look 144 = .ok (.aload_n 0, 1) := by decide +kernel
theorem dX7_look_145 : decode cX7_look 145 = .ok (.aload_n 1, 1) := by decide +kernel
theorem dX7_look_146 : decode cX7_look 146 = .ok (.iload_n 2, 1) := by decide +kernel
theorem dX7_look_147 : decode cX7_look 147 = .ok (.iload 6, 2) := by decide +kernel
theorem dX7_look_149 : decode cX7_look 149 = .ok (.iload 11, 2) := by decide +kernel
theorem dX7_look_151 : decode cX7_look 151 = .ok (.invokevirtual 83, 3) := by decide +kernel
theorem dX7_look_154 : decode cX7_look 154 = .ok (.istore 6, 2) := by decide +kernel
theorem dX7_look_156 : decode cX7_look 156 = .ok (.iload 6, 2) := by decide +kernel
theorem dX7_look_158 : decode cX7_look 158 = .ok (.iconst (-1), 1) := by decide +kernel
theorem dX7_look_159 : decode cX7_look 159 = .ok (.if_icmp .ne 5, 3) := by decide +kernel
theorem dX7_look_162 : decode cX7_look 162 = .ok (.iconst (-1), 1) := by decide +kernel
