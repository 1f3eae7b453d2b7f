theorem dX0_init_0 : decode cX0_init 0 = .ok (.aload_n 0, 1) := by decide +kernel
theorem dX0_init_1 : decode cX0_init 1 = .ok (.invokespecial 3, 3) := by decide +kernel
theorem dX0_init_4 : decode cX0_init 4 = .ok (.aload_n 0, 1) := by decide +kernel
theorem dX0_init_5 : decode cX0_init 5 = .ok (.bipush 92, 2) := by decide +kernel
theorem dX0_init_7 : decode cX0_init 7 = .ok (.newarray .int, 2) := by decide +kernel
theorem dX0_init_9 : decode cX0_init 9 = .ok (.putfield 9, 3) := by decide +kernel
theorem dX0_init_12 : decode cX0_init 12 = .ok (.aload_n 0, 1) := by decide +kernel
theorem dX0_init_13 : decode cX0_init 13 = .ok (.bipush 92, 2) := by decide +kernel
theorem dX0_init_15 : decode cX0_init 15 = .ok (.newarray .int, 2) := by decide +kernel
theorem dX0_init_17 : decode cX0_init 17 = .ok (.putfield 15, 3) := by decide +kernel
theorem dX0_init_20 : decode cX0_init 20 = .ok (.aload_n 0, 1) := by decide +kernel
theorem dX0_init_21 : decode cX0_init 21 = .ok (.bipush 10, 2) := by decide +kernel
theorem dX0_init_23 : decode cX0_init 23 = .ok (.newarray .int, 2) := by decide +kernel
theorem dX0_init_25 : decode cX0_init 25 = .ok (.putfield 18, 3) := by decide +kernel
theorem dX0_init_28 : decode cX0_init 28 = .ok (.aload_n 0, 1) := by decide +kernel
theorem dX0_init_29 : decode cX0_init 29 = .ok (.bipush 10, 2) := by decide +kernel
theorem dX0_init_31 : decode cX0_init 31 = .ok (.newarray .int, 2) := by decide +kernel
theorem dX0_init_33 : decode cX0_init 33 = .ok (.putfield 21, 3) := by decide +kernel
theorem dX0_init_36 : decode cX0_init 36 = .ok (.aload_n 0, 1) := by decide +kernel
theorem dX0_init_37 : decode cX0_init 37 = .ok (.iconst 0, 1) := by decide +kernel
theorem dX0_init_38 : decode cX0_init 38 = .ok (.putfield 24, 3) := by decide +kernel
theorem dX0_init_41 : decode cX0_init 41 = .ok (.aload_n 0, 1) := by decide +kernel
theorem dX0_init_42 : decode cX0_init 42 = .ok (.iconst 0, 1) := by decide +kernel
theorem dX0_init_43 : decode cX0_init 43 = .ok (.putfield 28, 3) := by decide +kernel
theorem dX0_init_46 : decode cX0_init 46 = .ok (.aload_n 0, 1) := by decide +kernel
theorem dX0_init_47 : decode cX0_init 47 = .ok (.iconst (-1), 1) := by decide +kernel
theorem dX0_init_48 : decode cX0_init 48 = .ok (.putfield 31, 3) := by decide +kernel
theorem dX0_init_51 : decode cX0_init 51 = .ok (.return_, 1) := by decide +kernel
theorem dX0_become_0 : decode cX0_become 0 = .ok (.aload_n 1, 1) := by decide +kernel
theorem dX0_become_1 : decode cX0_become 1 = .ok (.iconst 0, 1) := by decide +kernel
theorem dX0_become_2 : decode cX0_become 2 = .ok (.aload_n 0, 1) := by decide +kernel
theorem dX0_become_3 : decode cX0_become 3 = .ok (.getfield 9, 3) := by decide +kernel
theorem dX0_become_6 : decode cX0_become 6 = .ok (.iconst 0, 1) := by decide +kernel
theorem dX0_become_7 : decode cX0_become 7 = .ok (.iload_n 2, 1) := by decide +kernel
theorem dX0_become_8 : decode cX0_become 8 = .ok (.invokestatic 34, 3) := by decide +kernel
theorem dX0_become_11 : decode cX0_become 11 = .ok (.aload_n 0, 1) := by decide +kernel
theorem dX0_become_12 : decode cX0_become 12 = .ok (.iload_n 2, 1) := by decide +kernel
theorem dX0_become_13 : decode cX0_become 13 = .ok (.putfield 24, 3) := by decide +kernel
theorem dX0_become_16 : decode cX0_become 16 = .ok (.aload_n 0, 1) := by decide +kernel
theorem dX0_become_17 : decode cX0_become 17 = .ok (.iconst (-1), 1) := by decide +kernel
theorem dX0_become_18 : decode cX0_become 18 = .ok (.putfield 31, 3) := by decide +kernel
theorem dX0_become_21 : decode cX0_become 21 = .ok (.aload_n 0, 1) := by decide +kernel
theorem dX0_become_22 : decode cX0_become 22 = .ok (.invokevirtual 40, 3) := by decide +kernel
theorem dX0_become_25 : decode cX0_become 25 = .ok (.return_, 1) := by decide +kernel
theorem dX0_replace_0 : decode cX0_replace 0 = .ok (.iload_n 3, 1) := by decide +kernel
theorem dX0_replace_1 : decode cX0_replace 1 = .ok (.iconst (-1), 1) := by decide +kernel
theorem dX0_replace_2 : decode cX0_replace 2 = .ok (.if_icmp .eq 26, 3) := by decide +kernel
theorem dX0_replace_5 : decode cX0_replace 5 = .ok (.aload_n 0, 1) := by decide +kernel
theorem dX0_replace_6 : decode cX0_replace 6 = .ok (.getfield 24, 3) := by decide +kernel
theorem dX0_replace_9 : decode cX0_replace 9 = .ok (.aload_n 0, 1) := by decide +kernel
theorem dX0_replace_10 : decode cX0_replace 10 = .ok (.getfield 21, 3) := by decide +kernel
theorem dX0_replace_13 : decode cX0_replace 13 = .ok (.iload_n 1, 1) := by decide +kernel
theorem dX0_replace_14 : decode cX0_replace 14 = .ok (.iaload, 1) := by decide +kernel
theorem dX0_replace_15 : decode cX0_replace 15 = .ok (.isub, 1) := by decide +kernel
theorem dX0_replace_16 : decode cX0_replace 16 = .ok (.aload_n 2, 1) := by decide +kernel
theorem dX0_replace_17 : decode cX0_replace 17 = .ok (.getfield 43, 3) := by decide +kernel
theorem dX0_replace_20 : decode cX0_replace 20 = .ok (.iload_n 3, 1) := by decide +kernel
theorem dX0_replace_21 : decode cX0_replace 21 = .ok (.iaload, 1) := by decide +kernel
theorem dX0_replace_22 : decode cX0_replace 22 = .ok (.iadd, 1) := by decide +kernel
theorem dX0_replace_23 : decode cX0_replace 23 = .ok (.bipush 92, 2) := by decide +kernel
theorem dX0_replace_25 : decode cX0_replace 25 = .ok (.if_icmp .le 4, 3) := by decide +kernel
theorem dX0_replace_28 : decode cX0_replace 28 = .ok (.return_, 1) := by decide +kernel
theorem dX0_replace_29 : decode cX0_replace 29 = .ok (.aload_n 0, 1) := by decide +kernel
theorem dX0_replace_30 : decode cX0_replace 30 = .ok (.getfield 18, 3) := by decide +kernel
theorem dX0_replace_33 : decode cX0_replace 33 = .ok (.iload_n 1, 1) := by decide +kernel
theorem dX0_replace_34 : decode cX0_replace 34 = .ok (.iaload, 1) := by decide +kernel
theorem dX0_replace_35 : decode cX0_replace 35 = .ok (.istore 4, 2) := by decide +kernel
theorem dX0_replace_37 : decode cX0_replace 37 = .ok (.iload 4, 2) := by decide +kernel
theorem dX0_replace_39 : decode cX0_replace 39 = .ok (.aload_n 0, 1) := by decide +kernel
theorem dX0_replace_40 : decode cX0_replace 40 = .ok (.getfield 21, 3) := by decide +kernel
theorem dX0_replace_43 : decode cX0_replace 43 = .ok (.iload_n 1, 1) := by decide +kernel
theorem dX0_replace_44 : decode cX0_replace 44 = .ok (.iaload, 1) := by decide +kernel
theorem dX0_replace_45 : decode cX0_replace 45 = .ok (.iadd, 1) := by decide +kernel
theorem dX0_replace_46 : decode cX0_replace 46 = .ok (.istore 5, 2) := by decide +kernel
theorem dX0_replace_48 : decode cX0_replace 48 = .ok (.aload_n 2, 1) := by decide +kernel
theorem dX0_replace_49 : decode cX0_replace 49 = .ok (.getfield 43, 3) := by decide +kernel
theorem dX0_replace_52 : decode cX0_replace 52 = .ok (.iload_n 3, 1) := by decide +kernel
theorem dX0_replace_53 : decode cX0_replace 53 = .ok (.iaload, 1) := by decide +kernel
theorem dX0_replace_54 : decode cX0_replace 54 = .ok (.istore 6, 2) := by decide +kernel
theorem dX0_replace_56 : decode cX0_replace 56 = .ok (.aload_n 0, 1) := by decide +kernel
theorem dX0_replace_57 : decode cX0_replace 57 = .ok (.getfield 9, 3) := by decide +kernel
theorem dX0_replace_60 : decode cX0_replace 60 = .ok (.iload 5, 2) := by decide +kernel
theorem dX0_replace_62 : decode cX0_replace 62 = .ok (.aload_n 0, 1) := by decide +kernel
theorem dX0_replace_63 : decode cX0_replace 63 = .ok (.getfield 9, 3) := by decide +kernel
theorem dX0_replace_66 : decode cX0_replace 66 = .ok (.iload 4, 2) := by decide +kernel
theorem dX0_replace_68 : decode cX0_replace 68 = .ok (.iload 6, 2) := by decide +kernel
theorem dX0_replace_70 : decode cX0_replace 70 = .ok (.iadd, 1) := by decide +kernel
theorem dX0_replace_71 : decode cX0_replace 71 = .ok (.aload_n 0, 1) := by decide +kernel
theorem dX0_replace_72 : decode cX0_replace 72 = .ok (.getfield 24, 3) := by decide +kernel
theorem dX0_replace_75 : decode cX0_replace 75 = .ok (.iload 5, 2) := by decide +kernel
theorem dX0_replace_77 : decode cX0_replace 77 = .ok (.isub, 1) := by decide +kernel
theorem dX0_replace_78 : decode cX0_replace 78 = .ok (.invokestatic 34, 3) := by decide +kernel
theorem dX0_replace_81 : decode cX0_replace 81 = .ok (.iconst 0, 1) := by decide +kernel
theorem dX0_replace_82 : decode cX0_replace 82 = .ok (.istore 7, 2) := by decide +kernel
theorem dX0_replace_84 : decode cX0_replace 84 = .ok (.iload 7, 2) := by decide +kernel
theorem dX0_replace_86 : decode cX0_replace 86 = .ok (.iload 6, 2) := by decide +kernel
theorem dX0_replace_88 : decode cX0_replace 88 = .ok (.if_icmp .ge 34, 3) := by decide +kernel
theorem dX0_replace_91 : decode cX0_replace 91 = .ok (.aload_n 0, 1) := by decide +kernel
theorem dX0_replace_92 : decode cX0_replace 92 = .ok (.getfield 9, 3) := by decide +kernel
theorem dX0_replace_95 : decode cX0_replace 95 = .ok (.iload 4, 2) := by decide +kernel
theorem dX0_replace_97 : decode cX0_replace 97 = .ok (.iload 7, 2) := by decide +kernel
theorem dX0_replace_99 : decode cX0_replace 99 = .ok (.iadd, 1) := by decide +kernel
theorem dX0_replace_100 : decode cX0_replace 100 = .ok (.bipush 97, 2) := by decide +kernel
theorem dX0_replace_102 : decode cX0_replace 102 = .ok (.aload_n 2, 1) := by decide +kernel
theorem dX0_replace_103 : decode cX0_replace 103 = .ok (.getfield 46, 3) := by decide +kernel
theorem dX0_replace_106 : decode cX0_replace 106 = .ok (.iload_n 3, 1) := by decide +kernel
theorem dX0_replace_107 : decode cX0_replace 107 = .ok (.bipush 12, 2) := by decide +kernel
theorem dX0_replace_109 : decode cX0_replace 109 = .ok (.imul, 1) := by decide +kernel
theorem dX0_replace_110 : decode cX0_replace 110 = .ok (.iload 7, 2) := by decide +kernel
theorem dX0_replace_112 : decode cX0_replace 112 = .ok (.iadd, 1) := by decide +kernel
theorem dX0_replace_113 : decode cX0_replace 113 = .ok (.iaload, 1) := by decide +kernel
theorem dX0_replace_114 : decode cX0_replace 114 = .ok (.iadd, 1) := by decide +kernel
theorem dX0_replace_115 : decode cX0_replace 115 = .ok (.iastore, 1) := by decide +kernel
theorem dX0_replace_116 : decode cX0_replace 116 = .ok (.iinc 7 1, 3) := by decide +kernel
theorem dX0_replace_119 : decode cX0_replace 119 = .ok (.goto (-35), 3) := by decide +kernel
theorem dX0_replace_122 : decode cX0_replace 122 = .ok (.aload_n 0, 1) := by decide +kernel
theorem dX0_replace_123 : decode cX0_replace 123 = .ok (.aload_n 0, 1) := by decide +kernel
theorem dX0_replace_124 : decode cX0_replace 124 = .ok (.getfield 24, 3) := by decide +kernel
theorem dX0_replace_127 : decode cX0_replace 127 = .ok (.aload_n 0, 1) := by decide +kernel
theorem dX0_replace_128 : decode cX0_replace 128 = .ok (.getfield 21, 3) := by decide +kernel
theorem dX0_replace_131 : decode cX0_replace 131 = .ok (.iload_n 1, 1) := by decide +kernel
theorem dX0_replace_132 : decode cX0_replace 132 = .ok (.iaload, 1) := by decide +kernel
theorem dX0_replace_133 : decode cX0_replace 133 = .ok (.isub, 1) := by decide +kernel
theorem dX0_replace_134 : decode cX0_replace 134 = .ok (.iload 6, 2) := by decide +kernel
theorem dX0_replace_136 : decode cX0_replace 136 = .ok (.iadd, 1) := by decide +kernel
theorem dX0_replace_137 : decode cX0_replace 137 = .ok (.putfield 24, 3) := by decide +kernel
theorem dX0_replace_140 : decode cX0_replace 140 = .ok (.aload_n 0, 1) := by decide +kernel
theorem dX0_replace_141 : decode cX0_replace 141 = .ok (.invokevirtual 40, 3) := by decide +kernel
theorem dX0_replace_144 : decode cX0_replace 144 = .ok (.return_, 1) := by decide +kernel
theorem dX0_split_0 : decode cX0_split 0 = .ok (.aload_n 0, 1) := by decide +kernel
theorem dX0_split_1 : decode cX0_split 1 = .ok (.iconst 0, 1) := by decide +kernel
theorem dX0_split_2 : decode cX0_split 2 = .ok (.putfield 28, 3) := by decide +kernel
theorem dX0_split_5 : decode cX0_split 5 = .ok (.iconst 0, 1) := by decide +kernel
theorem dX0_split_6 : decode cX0_split 6 = .ok (.istore_n 1, 1) := by decide +kernel
theorem dX0_split_7 : decode cX0_split 7 = .ok (.iconst 0, 1) := by decide +kernel
theorem dX0_split_8 : decode cX0_split 8 = .ok (.istore_n 2, 1) := by decide +kernel
theorem dX0_split_9 : decode cX0_split 9 = .ok (.iload_n 2, 1) := by decide +kernel
theorem dX0_split_10 : decode cX0_split 10 = .ok (.aload_n 0, 1) := by decide +kernel
theorem dX0_split_11 : decode cX0_split 11 = .ok (.getfield 24, 3) := by decide +kernel
theorem dX0_split_14 : decode cX0_split 14 = .ok (.if_icmp .ge 92, 3) := by decide +kernel
theorem dX0_split_17 : decode cX0_split 17 = .ok (.aload_n 0, 1) := by decide +kernel
theorem dX0_split_18 : decode cX0_split 18 = .ok (.getfield 15, 3) := by decide +kernel
theorem dX0_split_21 : decode cX0_split 21 = .ok (.iload_n 2, 1) := by decide +kernel
theorem dX0_split_22 : decode cX0_split 22 = .ok (.aload_n 0, 1) := by decide +kernel
theorem dX0_split_23 : decode cX0_split 23 = .ok (.getfield 9, 3) := by decide +kernel
theorem dX0_split_26 : decode cX0_split 26 = .ok (.iload_n 2, 1) := by decide +kernel
theorem dX0_split_27 : decode cX0_split 27 = .ok (.iaload, 1) := by decide +kernel
theorem dX0_split_28 : decode cX0_split 28 = .ok (.invokestatic 47, 3) := by decide +kernel
theorem dX0_split_31 : decode cX0_split 31 = .ok (.iastore, 1) := by decide +kernel
theorem dX0_split_32 : decode cX0_split 32 = .ok (.aload_n 0, 1) := by decide +kernel
theorem dX0_split_33 : decode cX0_split 33 = .ok (.getfield 15, 3) := by decide +kernel
theorem dX0_split_36 : decode cX0_split 36 = .ok (.iload_n 2, 1) := by decide +kernel
theorem dX0_split_37 : decode cX0_split 37 = .ok (.iaload, 1) := by decide +kernel
theorem dX0_split_38 : decode cX0_split 38 = .ok (.iconst (-1), 1) := by decide +kernel
theorem dX0_split_39 : decode cX0_split 39 = .ok (.if_icmp .ne 7, 3) := by decide +kernel
theorem dX0_split_42 : decode cX0_split 42 = .ok (.iconst 0, 1) := by decide +kernel
theorem dX0_split_43 : decode cX0_split 43 = .ok (.goto 6, 3) := by decide +kernel
theorem dX0_split_46 : decode cX0_split 46 = .ok (.iload_n 1, 1) := by decide +kernel
theorem dX0_split_47 : decode cX0_split 47 = .ok (.iconst 1, 1) := by decide +kernel
theorem dX0_split_48 : decode cX0_split 48 = .ok (.iadd, 1) := by decide +kernel
theorem dX0_split_49 : decode cX0_split 49 = .ok (.istore_n 1, 1) := by decide +kernel
theorem dX0_split_50 : decode cX0_split 50 = .ok (.iload_n 1, 1) := by decide +kernel
theorem dX0_split_51 : decode cX0_split 51 = .ok (.iconst 1, 1) := by decide +kernel
theorem dX0_split_52 : decode cX0_split 52 = .ok (.if_icmp .ne 32, 3) := by decide +kernel
theorem dX0_split_55 : decode cX0_split 55 = .ok (.aload_n 0, 1) := by decide +kernel
theorem dX0_split_56 : decode cX0_split 56 = .ok (.getfield 28, 3) := by decide +kernel
theorem dX0_split_59 : decode cX0_split 59 = .ok (.bipush 10, 2) := by decide +kernel
theorem dX0_split_61 : decode cX0_split 61 = .ok (.if_icmp .ge 23, 3) := by decide +kernel
theorem dX0_split_64 : decode cX0_split 64 = .ok (.aload_n 0, 1) := by decide +kernel
theorem dX0_split_65 : decode cX0_split 65 = .ok (.getfield 18, 3) := by decide +kernel
theorem dX0_split_68 : decode cX0_split 68 = .ok (.aload_n 0, 1) := by decide +kernel
theorem dX0_split_69 : decode cX0_split 69 = .ok (.getfield 28, 3) := by decide +kernel
theorem dX0_split_72 : decode cX0_split 72 = .ok (.iload_n 2, 1) := by decide +kernel
theorem dX0_split_73 : decode cX0_split 73 = .ok (.iastore, 1) := by decide +kernel
theorem dX0_split_74 : decode cX0_split 74 = .ok (.aload_n 0, 1) := by decide +kernel
theorem dX0_split_75 : decode cX0_split 75 = .ok (.dup, 1) := by decide +kernel
theorem dX0_split_76 : decode cX0_split 76 = .ok (.getfield 28, 3) := by decide +kernel
theorem dX0_split_79 : decode cX0_split 79 = .ok (.iconst 1, 1) := by decide +kernel
theorem dX0_split_80 : decode cX0_split 80 = .ok (.iadd, 1) := by decide +kernel
theorem dX0_split_81 : decode cX0_split 81 = .ok (.putfield 28, 3) := by decide +kernel
theorem dX0_split_84 : decode cX0_split 84 = .ok (.iload_n 1, 1) := by decide +kernel
theorem dX0_split_85 : decode cX0_split 85 = .ok (.ifCond .le 15, 3) := by decide +kernel
theorem dX0_split_88 : decode cX0_split 88 = .ok (.aload_n 0, 1) := by decide +kernel
theorem dX0_split_89 : decode cX0_split 89 = .ok (.getfield 21, 3) := by decide +kernel
theorem dX0_split_92 : decode cX0_split 92 = .ok (.aload_n 0, 1) := by decide +kernel
theorem dX0_split_93 : decode cX0_split 93 = .ok (.getfield 28, 3) := by decide +kernel
theorem dX0_split_96 : decode cX0_split 96 = .ok (.iconst 1, 1) := by decide +kernel
theorem dX0_split_97 : decode cX0_split 97 = .ok (.isub, 1) := by decide +kernel
theorem dX0_split_98 : decode cX0_split 98 = .ok (.iload_n 1, 1) := by decide +kernel
theorem dX0_split_99 : decode cX0_split 99 = .ok (.iastore, 1) := by decide +kernel
theorem dX0_split_100 : decode cX0_split 100 = .ok (.iinc 2 1, 3) := by decide +kernel
theorem dX0_split_103 : decode cX0_split 103 = .ok (.goto (-94), 3) := by decide +kernel
theorem dX0_split_106 : decode cX0_split 106 = .ok (.return_, 1) := by decide +kernel
theorem dX1_init_0 : decode cX1_init 0 = .ok (.aload_n 0, 1) := by decide +kernel
theorem dX1_init_1 : decode cX1_init 1 = .ok (.invokespecial 3, 3) := by decide +kernel
theorem dX1_init_4 : decode cX1_init 4 = .ok (.aload_n 0, 1) := by decide +kernel
theorem dX1_init_5 : decode cX1_init 5 = .ok (.sipush 480, 3) := by decide +kernel
theorem dX1_init_8 : decode cX1_init 8 = .ok (.newarray .int, 2) := by decide +kernel
theorem dX1_init_10 : decode cX1_init 10 = .ok (.putfield 9, 3) := by decide +kernel
theorem dX1_init_13 : decode cX1_init 13 = .ok (.aload_n 0, 1) := by decide +kernel
theorem dX1_init_14 : decode cX1_init 14 = .ok (.bipush 40, 2) := by decide +kernel
theorem dX1_init_16 : decode cX1_init 16 = .ok (.newarray .int, 2) := by decide +kernel
theorem dX1_init_18 : decode cX1_init 18 = .ok (.putfield 15, 3) := by decide +kernel
theorem dX1_init_21 : decode cX1_init 21 = .ok (.aload_n 0, 1) := by decide +kernel
theorem dX1_init_22 : decode cX1_init 22 = .ok (.bipush 40, 2) := by decide +kernel
theorem dX1_init_24 : decode cX1_init 24 = .ok (.newarray .int, 2) := by decide +kernel
theorem dX1_init_26 : decode cX1_init 26 = .ok (.putfield 18, 3) := by decide +kernel
theorem dX1_init_29 : decode cX1_init 29 = .ok (.aload_n 0, 1) := by decide +kernel
theorem dX1_init_30 : decode cX1_init 30 = .ok (.bipush 40, 2) := by decide +kernel
theorem dX1_init_32 : decode cX1_init 32 = .ok (.newarray .int, 2) := by decide +kernel
theorem dX1_init_34 : decode cX1_init 34 = .ok (.putfield 21, 3) := by decide +kernel
theorem dX1_init_37 : decode cX1_init 37 = .ok (.aload_n 0, 1) := by decide +kernel
theorem dX1_init_38 : decode cX1_init 38 = .ok (.iconst 0, 1) := by decide +kernel
theorem dX1_init_39 : decode cX1_init 39 = .ok (.putfield 24, 3) := by decide +kernel
theorem dX1_init_42 : decode cX1_init 42 = .ok (.return_, 1) := by decide +kernel
theorem dX1_isOfTyped_0 : decode cX1_isOfTyped 0 = .ok (.aload_n 0, 1) := by decide +kernel
theorem dX1_isOfTyped_1 : decode cX1_isOfTyped 1 = .ok (.getfield 15, 3) := by decide +kernel
theorem dX1_isOfTyped_4 : decode cX1_isOfTyped 4 = .ok (.iload_n 1, 1) := by decide +kernel
theorem dX1_isOfTyped_5 : decode cX1_isOfTyped 5 = .ok (.iaload, 1) := by decide +kernel
theorem dX1_isOfTyped_6 : decode cX1_isOfTyped 6 = .ok (.iload 4, 2) := by decide +kernel
theorem dX1_isOfTyped_8 : decode cX1_isOfTyped 8 = .ok (.if_icmp .ne 25, 3) := by decide +kernel
theorem dX1_isOfTyped_11 : decode cX1_isOfTyped 11 = .ok (.aload_n 0, 1) := by decide +kernel
theorem dX1_isOfTyped_12 : decode cX1_isOfTyped 12 = .ok (.getfield 9, 3) := by decide +kernel
theorem dX1_isOfTyped_15 : decode cX1_isOfTyped 15 = .ok (.iload_n 1, 1) := by decide +kernel
theorem dX1_isOfTyped_16 : decode cX1_isOfTyped 16 = .ok (.bipush 12, 2) := by decide +kernel
theorem dX1_isOfTyped_18 : decode cX1_isOfTyped 18 = .ok (.imul, 1) := by decide +kernel
theorem dX1_isOfTyped_19 : decode cX1_isOfTyped 19 = .ok (.aload_n 2, 1) := by decide +kernel
theorem dX1_isOfTyped_20 : decode cX1_isOfTyped 20 = .ok (.iload_n 3, 1) := by decide +kernel
theorem dX1_isOfTyped_21 : decode cX1_isOfTyped 21 = .ok (.iload 4, 2) := by decide +kernel
theorem dX1_isOfTyped_23 : decode cX1_isOfTyped 23 = .ok (.invokestatic 28, 3) := by decide +kernel
theorem dX1_isOfTyped_26 : decode cX1_isOfTyped 26 = .ok (.ifCond .eq 7, 3) := by decide +kernel
theorem dX1_isOfTyped_29 : decode cX1_isOfTyped 29 = .ok (.iconst 1, 1) := by decide +kernel
theorem dX1_isOfTyped_30 : decode cX1_isOfTyped 30 = .ok (.goto 4, 3) := by decide +kernel
theorem dX1_isOfTyped_33 : decode cX1_isOfTyped 33 = .ok (.iconst 0, 1) := by decide +kernel
theorem dX1_isOfTyped_34 : decode cX1_isOfTyped 34 = .ok (.ireturn, 1) := by decide +kernel
theorem dX1_add_0 : decode cX1_add 0 = .ok (.iconst 0, 1) := by decide +kernel
theorem dX1_add_1 : decode cX1_add 1 = .ok (.istore 5, 2) := by decide +kernel
theorem dX1_add_3 : decode cX1_add 3 = .ok (.iload 5, 2) := by decide +kernel
theorem dX1_add_5 : decode cX1_add 5 = .ok (.aload_n 0, 1) := by decide +kernel
theorem dX1_add_6 : decode cX1_add 6 = .ok (.getfield 24, 3) := by decide +kernel
theorem dX1_add_9 : decode cX1_add 9 = .ok (.if_icmp .ge 45, 3) := by decide +kernel
theorem dX1_add_12 : decode cX1_add 12 = .ok (.aload_n 0, 1) := by decide +kernel
theorem dX1_add_13 : decode cX1_add 13 = .ok (.getfield 18, 3) := by decide +kernel
theorem dX1_add_16 : decode cX1_add 16 = .ok (.iload 5, 2) := by decide +kernel
theorem dX1_add_18 : decode cX1_add 18 = .ok (.iaload, 1) := by decide +kernel
theorem dX1_add_19 : decode cX1_add 19 = .ok (.iload 4, 2) := by decide +kernel
theorem dX1_add_21 : decode cX1_add 21 = .ok (.if_icmp .ne 27, 3) := by decide +kernel
theorem dX1_add_24 : decode cX1_add 24 = .ok (.aload_n 0, 1) := by decide +kernel
theorem dX1_add_25 : decode cX1_add 25 = .ok (.iload 5, 2) := by decide +kernel
theorem dX1_add_27 : decode cX1_add 27 = .ok (.aload_n 1, 1) := by decide +kernel
theorem dX1_add_28 : decode cX1_add 28 = .ok (.iload_n 2, 1) := by decide +kernel
theorem dX1_add_29 : decode cX1_add 29 = .ok (.iload_n 3, 1) := by decide +kernel
theorem dX1_add_30 : decode cX1_add 30 = .ok (.invokevirtual 32, 3) := by decide +kernel
theorem dX1_add_33 : decode cX1_add 33 = .ok (.ifCond .eq 15, 3) := by decide +kernel
theorem dX1_add_36 : decode cX1_add 36 = .ok (.aload_n 0, 1) := by decide +kernel
theorem dX1_add_37 : decode cX1_add 37 = .ok (.getfield 21, 3) := by decide +kernel
theorem dX1_add_40 : decode cX1_add 40 = .ok (.iload 5, 2) := by decide +kernel
theorem dX1_add_42 : decode cX1_add 42 = .ok (.dup2, 1) := by decide +kernel
theorem dX1_add_43 : decode cX1_add 43 = .ok (.iaload, 1) := by decide +kernel
theorem dX1_add_44 : decode cX1_add 44 = .ok (.iconst 1, 1) := by decide +kernel
theorem dX1_add_45 : decode cX1_add 45 = .ok (.iadd, 1) := by decide +kernel
theorem dX1_add_46 : decode cX1_add 46 = .ok (.iastore, 1) := by decide +kernel
theorem dX1_add_47 : decode cX1_add 47 = .ok (.return_, 1) := by decide +kernel
theorem dX1_add_48 : decode cX1_add 48 = .ok (.iinc 5 1, 3) := by decide +kernel
theorem dX1_add_51 : decode cX1_add 51 = .ok (.goto (-48), 3) := by decide +kernel
theorem dX1_add_54 : decode cX1_add 54 = .ok (.iload_n 3, 1) := by decide +kernel
theorem dX1_add_55 : decode cX1_add 55 = .ok (.bipush 12, 2) := by decide +kernel
theorem dX1_add_57 : decode cX1_add 57 = .ok (.if_icmp .gt 12, 3) := by decide +kernel
theorem dX1_add_60 : decode cX1_add 60 = .ok (.aload_n 0, 1) := by decide +kernel
theorem dX1_add_61 : decode cX1_add 61 = .ok (.getfield 24, 3) := by decide +kernel
theorem dX1_add_64 : decode cX1_add 64 = .ok (.bipush 40, 2) := by decide +kernel
theorem dX1_add_66 : decode cX1_add 66 = .ok (.if_icmp .lt 4, 3) := by decide +kernel
theorem dX1_add_69 : decode cX1_add 69 = .ok (.return_, 1) := by decide +kernel
theorem dX1_add_70 : decode cX1_add 70 = .ok (.aload_n 1, 1) := by decide +kernel
theorem dX1_add_71 : decode cX1_add 71 = .ok (.iload_n 2, 1) := by decide +kernel
theorem dX1_add_72 : decode cX1_add 72 = .ok (.aload_n 0, 1) := by decide +kernel
theorem dX1_add_73 : decode cX1_add 73 = .ok (.getfield 9, 3) := by decide +kernel
theorem dX1_add_76 : decode cX1_add 76 = .ok (.aload_n 0, 1) := by decide +kernel
theorem dX1_add_77 : decode cX1_add 77 = .ok (.getfield 24, 3) := by decide +kernel
theorem dX1_add_80 : decode cX1_add 80 = .ok (.bipush 12, 2) := by decide +kernel
theorem dX1_add_82 : decode cX1_add 82 = .ok (.imul, 1) := by decide +kernel
theorem dX1_add_83 : decode cX1_add 83 = .ok (.iload_n 3, 1) := by decide +kernel
theorem dX1_add_84 : decode cX1_add 84 = .ok (.invokestatic 36, 3) := by decide +kernel
theorem dX1_add_87 : decode cX1_add 87 = .ok (.aload_n 0, 1) := by decide +kernel
theorem dX1_add_88 : decode cX1_add 88 = .ok (.getfield 15, 3) := by decide +kernel
theorem dX1_add_91 : decode cX1_add 91 = .ok (.aload_n 0, 1) := by decide +kernel
theorem dX1_add_92 : decode cX1_add 92 = .ok (.getfield 24, 3) := by decide +kernel
theorem dX1_add_95 : decode cX1_add 95 = .ok (.iload_n 3, 1) := by decide +kernel
theorem dX1_add_96 : decode cX1_add 96 = .ok (.iastore, 1) := by decide +kernel
theorem dX1_add_97 : decode cX1_add 97 = .ok (.aload_n 0, 1) := by decide +kernel
theorem dX1_add_98 : decode cX1_add 98 = .ok (.getfield 18, 3) := by decide +kernel
theorem dX1_add_101 : decode cX1_add 101 = .ok (.aload_n 0, 1) := by decide +kernel
theorem dX1_add_102 : decode cX1_add 102 = .ok (.getfield 24, 3) := by decide +kernel
theorem dX1_add_105 : decode cX1_add 105 = .ok (.iload 4, 2) := by decide +kernel
theorem dX1_add_107 : decode cX1_add 107 = .ok (.iastore, 1) := by decide +kernel
theorem dX1_add_108 : decode cX1_add 108 = .ok (.aload_n 0, 1) := by decide +kernel
theorem dX1_add_109 : decode cX1_add 109 = .ok (.getfield 21, 3) := by decide +kernel
theorem dX1_add_112 : decode cX1_add 112 = .ok (.aload_n 0, 1) := by decide +kernel
theorem dX1_add_113 : decode cX1_add 113 = .ok (.getfield 24, 3) := by decide +kernel
theorem dX1_add_116 : decode cX1_add 116 = .ok (.iconst 1, 1) := by decide +kernel
theorem dX1_add_117 : decode cX1_add 117 = .ok (.iastore, 1) := by decide +kernel
theorem dX1_add_118 : decode cX1_add 118 = .ok (.aload_n 0, 1) := by decide +kernel
theorem dX1_add_119 : decode cX1_add 119 = .ok (.dup, 1) := by decide +kernel
theorem dX1_add_120 : decode cX1_add 120 = .ok (.getfield 24, 3) := by decide +kernel
theorem dX1_add_123 : decode cX1_add 123 = .ok (.iconst 1, 1) := by decide +kernel
theorem dX1_add_124 : decode cX1_add 124 = .ok (.iadd, 1) := by decide +kernel
theorem dX1_add_125 : decode cX1_add 125 = .ok (.putfield 24, 3) := by decide +kernel
theorem dX1_add_128 : decode cX1_add 128 = .ok (.return_, 1) := by decide +kernel
theorem dX1_countForward_0 : decode cX1_countForward 0 = .ok (.iconst 0, 1) := by decide +kernel
theorem dX1_countForward_1 : decode cX1_countForward 1 = .ok (.istore_n 2, 1) := by decide +kernel
theorem dX1_countForward_2 : decode cX1_countForward 2 = .ok (.iconst 0, 1) := by decide +kernel
theorem dX1_countForward_3 : decode cX1_countForward 3 = .ok (.istore_n 3, 1) := by decide +kernel
theorem dX1_countForward_4 : decode cX1_countForward 4 = .ok (.iload_n 3, 1) := by decide +kernel
theorem dX1_countForward_5 : decode cX1_countForward 5 = .ok (.aload_n 0, 1) := by decide +kernel
theorem dX1_countForward_6 : decode cX1_countForward 6 = .ok (.getfield 24, 3) := by decide +kernel
theorem dX1_countForward_9 : decode cX1_countForward 9 = .ok (.if_icmp .ge 22, 3) := by decide +kernel
theorem dX1_countForward_12 : decode cX1_countForward 12 = .ok (.aload_n 0, 1) := by decide +kernel
theorem dX1_countForward_13 : decode cX1_countForward 13 = .ok (.getfield 21, 3) := by decide +kernel
theorem dX1_countForward_16 : decode cX1_countForward 16 = .ok (.iload_n 3, 1) := by decide +kernel
theorem dX1_countForward_17 : decode cX1_countForward 17 = .ok (.iaload, 1) := by decide +kernel
theorem dX1_countForward_18 : decode cX1_countForward 18 = .ok (.iload_n 1, 1) := by decide +kernel
theorem dX1_countForward_19 : decode cX1_countForward 19 = .ok (.if_icmp .lt 6, 3) := by decide +kernel
theorem dX1_countForward_22 : decode cX1_countForward 22 = .ok (.iinc 2 1, 3) := by decide +kernel
theorem dX1_countForward_25 : decode cX1_countForward 25 = .ok (.iinc 3 1, 3) := by decide +kernel
theorem dX1_countForward_28 : decode cX1_countForward 28 = .ok (.goto (-24), 3) := by decide +kernel
theorem dX1_countForward_31 : decode cX1_countForward 31 = .ok (.iload_n 2, 1) := by decide +kernel
theorem dX1_countForward_32 : decode cX1_countForward 32 = .ok (.ireturn, 1) := by decide +kernel
theorem dX1_findForward_0 : decode cX1_findForward 0 = .ok (.iconst 0, 1) := by decide +kernel
theorem dX1_findForward_1 : decode cX1_findForward 1 = .ok (.istore_n 3, 1) := by decide +kernel
theorem dX1_findForward_2 : decode cX1_findForward 2 = .ok (.iconst 0, 1) := by decide +kernel
theorem dX1_findForward_3 : decode cX1_findForward 3 = .ok (.istore 4, 2) := by decide +kernel
theorem dX1_findForward_5 : decode cX1_findForward 5 = .ok (.iload 4, 2) := by decide +kernel
theorem dX1_findForward_7 : decode cX1_findForward 7 = .ok (.aload_n 0, 1) := by decide +kernel
theorem dX1_findForward_8 : decode cX1_findForward 8 = .ok (.getfield 24, 3) := by decide +kernel
theorem dX1_findForward_11 : decode cX1_findForward 11 = .ok (.if_icmp .ge 31, 3) := by decide +kernel
theorem dX1_findForward_14 : decode cX1_findForward 14 = .ok (.aload_n 0, 1) := by decide +kernel
theorem dX1_findForward_15 : decode cX1_findForward 15 = .ok (.getfield 21, 3) := by decide +kernel
theorem dX1_findForward_18 : decode cX1_findForward 18 = .ok (.iload 4, 2) := by decide +kernel
theorem dX1_findForward_20 : decode cX1_findForward 20 = .ok (.iaload, 1) := by decide +kernel
theorem dX1_findForward_21 : decode cX1_findForward 21 = .ok (.iload_n 2, 1) := by decide +kernel
theorem dX1_findForward_22 : decode cX1_findForward 22 = .ok (.if_icmp .lt 14, 3) := by decide +kernel
theorem dX1_findForward_25 : decode cX1_findForward 25 = .ok (.iload_n 3, 1) := by decide +kernel
theorem dX1_findForward_26 : decode cX1_findForward 26 = .ok (.iload_n 1, 1) := by decide +kernel
theorem dX1_findForward_27 : decode cX1_findForward 27 = .ok (.if_icmp .ne 6, 3) := by decide +kernel
theorem dX1_findForward_30 : decode cX1_findForward 30 = .ok (.iload 4, 2) := by decide +kernel
theorem dX1_findForward_32 : decode cX1_findForward 32 = .ok (.ireturn, 1) := by decide +kernel
theorem dX1_findForward_33 : decode cX1_findForward 33 = .ok (.iinc 3 1, 3) := by decide +kernel
theorem dX1_findForward_36 : decode cX1_findForward 36 = .ok (.iinc 4 1, 3) := by decide +kernel
theorem dX1_findForward_39 : decode cX1_findForward 39 = .ok (.goto (-34), 3) := by decide +kernel
theorem dX1_findForward_42 : decode cX1_findForward 42 = .ok (.iconst (-1), 1) := by decide +kernel
theorem dX1_findForward_43 : decode cX1_findForward 43 = .ok (.ireturn, 1) := by decide +kernel
theorem dX1_forget_0 : decode cX1_forget 0 = .ok (.iconst 0, 1) := by decide +kernel
theorem dX1_forget_1 : decode cX1_forget 1 = .ok (.istore 4, 2) := by decide +kernel
theorem dX1_forget_3 : decode cX1_forget 3 = .ok (.iconst 0, 1) := by decide +kernel
theorem dX1_forget_4 : decode cX1_forget 4 = .ok (.istore 5, 2) := by decide +kernel
theorem dX1_forget_6 : decode cX1_forget 6 = .ok (.iload 5, 2) := by decide +kernel
theorem dX1_forget_8 : decode cX1_forget 8 = .ok (.aload_n 0, 1) := by decide +kernel
theorem dX1_forget_9 : decode cX1_forget 9 = .ok (.getfield 24, 3) := by decide +kernel
theorem dX1_forget_12 : decode cX1_forget 12 = .ok (.if_icmp .ge 32, 3) := by decide +kernel
theorem dX1_forget_15 : decode cX1_forget 15 = .ok (.aload_n 0, 1) := by decide +kernel
theorem dX1_forget_16 : decode cX1_forget 16 = .ok (.iload 5, 2) := by decide +kernel
theorem dX1_forget_18 : decode cX1_forget 18 = .ok (.aload_n 1, 1) := by decide +kernel
theorem dX1_forget_19 : decode cX1_forget 19 = .ok (.iload_n 2, 1) := by decide +kernel
theorem dX1_forget_20 : decode cX1_forget 20 = .ok (.iload_n 3, 1) := by decide +kernel
theorem dX1_forget_21 : decode cX1_forget 21 = .ok (.invokevirtual 32, 3) := by decide +kernel
theorem dX1_forget_24 : decode cX1_forget 24 = .ok (.ifCond .ne 14, 3) := by decide +kernel
theorem dX1_forget_27 : decode cX1_forget 27 = .ok (.aload_n 0, 1) := by decide +kernel
theorem dX1_forget_28 : decode cX1_forget 28 = .ok (.iload 5, 2) := by decide +kernel
theorem dX1_forget_30 : decode cX1_forget 30 = .ok (.iload 4, 2) := by decide +kernel
theorem dX1_forget_32 : decode cX1_forget 32 = .ok (.invokevirtual 42, 3) := by decide +kernel
theorem dX1_forget_35 : decode cX1_forget 35 = .ok (.iinc 4 1, 3) := by decide +kernel
theorem dX1_forget_38 : decode cX1_forget 38 = .ok (.iinc 5 1, 3) := by decide +kernel
theorem dX1_forget_41 : decode cX1_forget 41 = .ok (.goto (-35), 3) := by decide +kernel
theorem dX1_forget_44 : decode cX1_forget 44 = .ok (.aload_n 0, 1) := by decide +kernel
theorem dX1_forget_45 : decode cX1_forget 45 = .ok (.iload 4, 2) := by decide +kernel
theorem dX1_forget_47 : decode cX1_forget 47 = .ok (.putfield 24, 3) := by decide +kernel
theorem dX1_forget_50 : decode cX1_forget 50 = .ok (.return_, 1) := by decide +kernel
theorem dX1_move_0 : decode cX1_move 0 = .ok (.aload_n 0, 1) := by decide +kernel
theorem dX1_move_1 : decode cX1_move 1 = .ok (.getfield 9, 3) := by decide +kernel
theorem dX1_move_4 : decode cX1_move 4 = .ok (.iload_n 1, 1) := by decide +kernel
theorem dX1_move_5 : decode cX1_move 5 = .ok (.bipush 12, 2) := by decide +kernel
theorem dX1_move_7 : decode cX1_move 7 = .ok (.imul, 1) := by decide +kernel
theorem dX1_move_8 : decode cX1_move 8 = .ok (.aload_n 0, 1) := by decide +kernel
theorem dX1_move_9 : decode cX1_move 9 = .ok (.getfield 9, 3) := by decide +kernel
theorem dX1_move_12 : decode cX1_move 12 = .ok (.iload_n 2, 1) := by decide +kernel
theorem dX1_move_13 : decode cX1_move 13 = .ok (.bipush 12, 2) := by decide +kernel
theorem dX1_move_15 : decode cX1_move 15 = .ok (.imul, 1) := by decide +kernel
theorem dX1_move_16 : decode cX1_move 16 = .ok (.bipush 12, 2) := by decide +kernel
theorem dX1_move_18 : decode cX1_move 18 = .ok (.invokestatic 36, 3) := by decide +kernel
theorem dX1_move_21 : decode cX1_move 21 = .ok (.aload_n 0, 1) := by decide +kernel
theorem dX1_move_22 : decode cX1_move 22 = .ok (.getfield 15, 3) := by decide +kernel
theorem dX1_move_25 : decode cX1_move 25 = .ok (.iload_n 2, 1) := by decide +kernel
theorem dX1_move_26 : decode cX1_move 26 = .ok (.aload_n 0, 1) := by decide +kernel
theorem dX1_move_27 : decode cX1_move 27 = .ok (.getfield 15, 3) := by decide +kernel
theorem dX1_move_30 : decode cX1_move 30 = .ok (.iload_n 1, 1) := by decide +kernel
theorem dX1_move_31 : decode cX1_move 31 = .ok (.iaload, 1) := by decide +kernel
theorem dX1_move_32 : decode cX1_move 32 = .ok (.iastore, 1) := by decide +kernel
theorem dX1_move_33 : decode cX1_move 33 = .ok (.aload_n 0, 1) := by decide +kernel
theorem dX1_move_34 : decode cX1_move 34 = .ok (.getfield 18, 3) := by decide +kernel
theorem dX1_move_37 : decode cX1_move 37 = .ok (.iload_n 2, 1) := by decide +kernel
theorem dX1_move_38 : decode cX1_move 38 = .ok (.aload_n 0, 1) := by decide +kernel
theorem dX1_move_39 : decode cX1_move 39 = .ok (.getfield 18, 3) := by decide +kernel
theorem dX1_move_42 : decode cX1_move 42 = .ok (.iload_n 1, 1) := by decide +kernel
theorem dX1_move_43 : decode cX1_move 43 = .ok (.iaload, 1) := by decide +kernel
theorem dX1_move_44 : decode cX1_move 44 = .ok (.iastore, 1) := by decide +kernel
theorem dX1_move_45 : decode cX1_move 45 = .ok (.aload_n 0, 1) := by decide +kernel
theorem dX1_move_46 : decode cX1_move 46 = .ok (.getfield 21, 3) := by decide +kernel
theorem dX1_move_49 : decode cX1_move 49 = .ok (.iload_n 2, 1) := by decide +kernel
theorem dX1_move_50 : decode cX1_move 50 = .ok (.aload_n 0, 1) := by decide +kernel
theorem dX1_move_51 : decode cX1_move 51 = .ok (.getfield 21, 3) := by decide +kernel
theorem dX1_move_54 : decode cX1_move 54 = .ok (.iload_n 1, 1) := by decide +kernel
theorem dX1_move_55 : decode cX1_move 55 = .ok (.iaload, 1) := by decide +kernel
theorem dX1_move_56 : decode cX1_move 56 = .ok (.iastore, 1) := by decide +kernel
theorem dX1_move_57 : decode cX1_move 57 = .ok (.return_, 1) := by decide +kernel
theorem dX2_init_0 : decode cX2_init 0 = .ok (.aload_n 0, 1) := by decide +kernel
theorem dX2_init_1 : decode cX2_init 1 = .ok (.invokespecial 3, 3) := by decide +kernel
theorem dX2_init_4 : decode cX2_init 4 = .ok (.aload_n 0, 1) := by decide +kernel
theorem dX2_init_5 : decode cX2_init 5 = .ok (.sipush 1080, 3) := by decide +kernel
theorem dX2_init_8 : decode cX2_init 8 = .ok (.newarray .int, 2) := by decide +kernel
theorem dX2_init_10 : decode cX2_init 10 = .ok (.putfield 9, 3) := by decide +kernel
theorem dX2_init_13 : decode cX2_init 13 = .ok (.aload_n 0, 1) := by decide +kernel
theorem dX2_init_14 : decode cX2_init 14 = .ok (.bipush 90, 2) := by decide +kernel
theorem dX2_init_16 : decode cX2_init 16 = .ok (.newarray .int, 2) := by decide +kernel
theorem dX2_init_18 : decode cX2_init 18 = .ok (.putfield 15, 3) := by decide +kernel
theorem dX2_init_21 : decode cX2_init 21 = .ok (.aload_n 0, 1) := by decide +kernel
theorem dX2_init_22 : decode cX2_init 22 = .ok (.bipush 90, 2) := by decide +kernel
theorem dX2_init_24 : decode cX2_init 24 = .ok (.newarray .int, 2) := by decide +kernel
theorem dX2_init_26 : decode cX2_init 26 = .ok (.putfield 18, 3) := by decide +kernel
theorem dX2_init_29 : decode cX2_init 29 = .ok (.aload_n 0, 1) := by decide +kernel
theorem dX2_init_30 : decode cX2_init 30 = .ok (.iconst 0, 1) := by decide +kernel
theorem dX2_init_31 : decode cX2_init 31 = .ok (.putfield 21, 3) := by decide +kernel
theorem dX2_init_34 : decode cX2_init 34 = .ok (.return_, 1) := by decide +kernel
theorem dX2_find_0 : decode cX2_find 0 = .ok (.iconst 0, 1) := by decide +kernel
theorem dX2_find_1 : decode cX2_find 1 = .ok (.istore 4, 2) := by decide +kernel
theorem dX2_find_3 : decode cX2_find 3 = .ok (.iload 4, 2) := by decide +kernel
theorem dX2_find_5 : decode cX2_find 5 = .ok (.aload_n 0, 1) := by decide +kernel
theorem dX2_find_6 : decode cX2_find 6 = .ok (.getfield 21, 3) := by decide +kernel
theorem dX2_find_9 : decode cX2_find 9 = .ok (.if_icmp .ge 41, 3) := by decide +kernel
theorem dX2_find_12 : decode cX2_find 12 = .ok (.aload_n 0, 1) := by decide +kernel
theorem dX2_find_13 : decode cX2_find 13 = .ok (.getfield 15, 3) := by decide +kernel
theorem dX2_find_16 : decode cX2_find 16 = .ok (.iload 4, 2) := by decide +kernel
theorem dX2_find_18 : decode cX2_find 18 = .ok (.iaload, 1) := by decide +kernel
theorem dX2_find_19 : decode cX2_find 19 = .ok (.iload_n 3, 1) := by decide +kernel
theorem dX2_find_20 : decode cX2_find 20 = .ok (.if_icmp .ne 24, 3) := by decide +kernel
theorem dX2_find_23 : decode cX2_find 23 = .ok (.aload_n 0, 1) := by decide +kernel
theorem dX2_find_24 : decode cX2_find 24 = .ok (.getfield 9, 3) := by decide +kernel
theorem dX2_find_27 : decode cX2_find 27 = .ok (.iload 4, 2) := by decide +kernel
theorem dX2_find_29 : decode cX2_find 29 = .ok (.bipush 12, 2) := by decide +kernel
theorem dX2_find_31 : decode cX2_find 31 = .ok (.imul, 1) := by decide +kernel
theorem dX2_find_32 : decode cX2_find 32 = .ok (.aload_n 1, 1) := by decide +kernel
theorem dX2_find_33 : decode cX2_find 33 = .ok (.iload_n 2, 1) := by decide +kernel
theorem dX2_find_34 : decode cX2_find 34 = .ok (.iload_n 3, 1) := by decide +kernel
theorem dX2_find_35 : decode cX2_find 35 = .ok (.invokestatic 25, 3) := by decide +kernel
theorem dX2_find_38 : decode cX2_find 38 = .ok (.ifCond .eq 6, 3) := by decide +kernel
theorem dX2_find_41 : decode cX2_find 41 = .ok (.iload 4, 2) := by decide +kernel
theorem dX2_find_43 : decode cX2_find 43 = .ok (.ireturn, 1) := by decide +kernel
theorem dX2_find_44 : decode cX2_find 44 = .ok (.iinc 4 1, 3) := by decide +kernel
theorem dX2_find_47 : decode cX2_find 47 = .ok (.goto (-44), 3) := by decide +kernel
theorem dX2_find_50 : decode cX2_find 50 = .ok (.iconst (-1), 1) := by decide +kernel
theorem dX2_find_51 : decode cX2_find 51 = .ok (.ireturn, 1) := by decide +kernel
theorem dX2_add_0 : decode cX2_add 0 = .ok (.aload_n 0, 1) := by decide +kernel
theorem dX2_add_1 : decode cX2_add 1 = .ok (.getfield 21, 3) := by decide +kernel
theorem dX2_add_4 : decode cX2_add 4 = .ok (.istore 5, 2) := by decide +kernel
theorem dX2_add_6 : decode cX2_add 6 = .ok (.aload_n 1, 1) := by decide +kernel
theorem dX2_add_7 : decode cX2_add 7 = .ok (.iload_n 2, 1) := by decide +kernel
theorem dX2_add_8 : decode cX2_add 8 = .ok (.aload_n 0, 1) := by decide +kernel
theorem dX2_add_9 : decode cX2_add 9 = .ok (.getfield 9, 3) := by decide +kernel
theorem dX2_add_12 : decode cX2_add 12 = .ok (.iload 5, 2) := by decide +kernel
theorem dX2_add_14 : decode cX2_add 14 = .ok (.bipush 12, 2) := by decide +kernel
theorem dX2_add_16 : decode cX2_add 16 = .ok (.imul, 1) := by decide +kernel
theorem dX2_add_17 : decode cX2_add 17 = .ok (.iload_n 3, 1) := by decide +kernel
theorem dX2_add_18 : decode cX2_add 18 = .ok (.invokestatic 29, 3) := by decide +kernel
theorem dX2_add_21 : decode cX2_add 21 = .ok (.aload_n 0, 1) := by decide +kernel
theorem dX2_add_22 : decode cX2_add 22 = .ok (.getfield 15, 3) := by decide +kernel
theorem dX2_add_25 : decode cX2_add 25 = .ok (.iload 5, 2) := by decide +kernel
theorem dX2_add_27 : decode cX2_add 27 = .ok (.iload_n 3, 1) := by decide +kernel
theorem dX2_add_28 : decode cX2_add 28 = .ok (.iastore, 1) := by decide +kernel
theorem dX2_add_29 : decode cX2_add 29 = .ok (.aload_n 0, 1) := by decide +kernel
theorem dX2_add_30 : decode cX2_add 30 = .ok (.getfield 18, 3) := by decide +kernel
theorem dX2_add_33 : decode cX2_add 33 = .ok (.iload 5, 2) := by decide +kernel
theorem dX2_add_35 : decode cX2_add 35 = .ok (.iload 4, 2) := by decide +kernel
theorem dX2_add_37 : decode cX2_add 37 = .ok (.iastore, 1) := by decide +kernel
theorem dX2_add_38 : decode cX2_add 38 = .ok (.aload_n 0, 1) := by decide +kernel
theorem dX2_add_39 : decode cX2_add 39 = .ok (.dup, 1) := by decide +kernel
theorem dX2_add_40 : decode cX2_add 40 = .ok (.getfield 21, 3) := by decide +kernel
theorem dX2_add_43 : decode cX2_add 43 = .ok (.iconst 1, 1) := by decide +kernel
theorem dX2_add_44 : decode cX2_add 44 = .ok (.iadd, 1) := by decide +kernel
theorem dX2_add_45 : decode cX2_add 45 = .ok (.putfield 21, 3) := by decide +kernel
theorem dX2_add_48 : decode cX2_add 48 = .ok (.iload 5, 2) := by decide +kernel
theorem dX2_add_50 : decode cX2_add 50 = .ok (.ireturn, 1) := by decide +kernel
theorem dX2_firstOf_0 : decode cX2_firstOf 0 = .ok (.iconst 0, 1) := by decide +kernel
theorem dX2_firstOf_1 : decode cX2_firstOf 1 = .ok (.istore_n 2, 1) := by decide +kernel
theorem dX2_firstOf_2 : decode cX2_firstOf 2 = .ok (.iload_n 2, 1) := by decide +kernel
theorem dX2_firstOf_3 : decode cX2_firstOf 3 = .ok (.aload_n 0, 1) := by decide +kernel
theorem dX2_firstOf_4 : decode cX2_firstOf 4 = .ok (.getfield 21, 3) := by decide +kernel
theorem dX2_firstOf_7 : decode cX2_firstOf 7 = .ok (.if_icmp .ge 21, 3) := by decide +kernel
theorem dX2_firstOf_10 : decode cX2_firstOf 10 = .ok (.aload_n 0, 1) := by decide +kernel
theorem dX2_firstOf_11 : decode cX2_firstOf 11 = .ok (.getfield 18, 3) := by decide +kernel
theorem dX2_firstOf_14 : decode cX2_firstOf 14 = .ok (.iload_n 2, 1) := by decide +kernel
theorem dX2_firstOf_15 : decode cX2_firstOf 15 = .ok (.iaload, 1) := by decide +kernel
theorem dX2_firstOf_16 : decode cX2_firstOf 16 = .ok (.iload_n 1, 1) := by decide +kernel
theorem dX2_firstOf_17 : decode cX2_firstOf 17 = .ok (.if_icmp .ne 5, 3) := by decide +kernel
theorem dX2_firstOf_20 : decode cX2_firstOf 20 = .ok (.iload_n 2, 1) := by decide +kernel
theorem dX2_firstOf_21 : decode cX2_firstOf 21 = .ok (.ireturn, 1) := by decide +kernel
theorem dX2_firstOf_22 : decode cX2_firstOf 22 = .ok (.iinc 2 1, 3) := by decide +kernel
theorem dX2_firstOf_25 : decode cX2_firstOf 25 = .ok (.goto (-23), 3) := by decide +kernel
theorem dX2_firstOf_28 : decode cX2_firstOf 28 = .ok (.iconst (-1), 1) := by decide +kernel
theorem dX2_firstOf_29 : decode cX2_firstOf 29 = .ok (.ireturn, 1) := by decide +kernel
theorem dX2_countOf_0 : decode cX2_countOf 0 = .ok (.iconst 0, 1) := by decide +kernel
theorem dX2_countOf_1 : decode cX2_countOf 1 = .ok (.istore_n 2, 1) := by decide +kernel
theorem dX2_countOf_2 : decode cX2_countOf 2 = .ok (.iconst 0, 1) := by decide +kernel
theorem dX2_countOf_3 : decode cX2_countOf 3 = .ok (.istore_n 3, 1) := by decide +kernel
theorem dX2_countOf_4 : decode cX2_countOf 4 = .ok (.iload_n 3, 1) := by decide +kernel
theorem dX2_countOf_5 : decode cX2_countOf 5 = .ok (.aload_n 0, 1) := by decide +kernel
theorem dX2_countOf_6 : decode cX2_countOf 6 = .ok (.getfield 21, 3) := by decide +kernel
theorem dX2_countOf_9 : decode cX2_countOf 9 = .ok (.if_icmp .ge 22, 3) := by decide +kernel
theorem dX2_countOf_12 : decode cX2_countOf 12 = .ok (.aload_n 0, 1) := by decide +kernel
theorem dX2_countOf_13 : decode cX2_countOf 13 = .ok (.getfield 18, 3) := by decide +kernel
theorem dX2_countOf_16 : decode cX2_countOf 16 = .ok (.iload_n 3, 1) := by decide +kernel
theorem dX2_countOf_17 : decode cX2_countOf 17 = .ok (.iaload, 1) := by decide +kernel
theorem dX2_countOf_18 : decode cX2_countOf 18 = .ok (.iload_n 1, 1) := by decide +kernel
theorem dX2_countOf_19 : decode cX2_countOf 19 = .ok (.if_icmp .ne 6, 3) := by decide +kernel
theorem dX2_countOf_22 : decode cX2_countOf 22 = .ok (.iinc 2 1, 3) := by decide +kernel
theorem dX2_countOf_25 : decode cX2_countOf 25 = .ok (.iinc 3 1, 3) := by decide +kernel
theorem dX2_countOf_28 : decode cX2_countOf 28 = .ok (.goto (-24), 3) := by decide +kernel
theorem dX2_countOf_31 : decode cX2_countOf 31 = .ok (.iload_n 2, 1) := by decide +kernel
theorem dX2_countOf_32 : decode cX2_countOf 32 = .ok (.ireturn, 1) := by decide +kernel
theorem dX3_init_0 : decode cX3_init 0 = .ok (.aload_n 0, 1) := by decide +kernel
theorem dX3_init_1 : decode cX3_init 1 = .ok (.invokespecial 3, 3) := by decide +kernel
theorem dX3_init_4 : decode cX3_init 4 = .ok (.aload_n 0, 1) := by decide +kernel
theorem dX3_init_5 : decode cX3_init 5 = .ok (.aload_n 1, 1) := by decide +kernel
theorem dX3_init_6 : decode cX3_init 6 = .ok (.putfield 9, 3) := by decide +kernel
theorem dX3_init_9 : decode cX3_init 9 = .ok (.aload_n 0, 1) := by decide +kernel
theorem dX3_init_10 : decode cX3_init 10 = .ok (.iconst 4, 1) := by decide +kernel
theorem dX3_init_11 : decode cX3_init 11 = .ok (.newarray .int, 2) := by decide +kernel
theorem dX3_init_13 : decode cX3_init 13 = .ok (.putfield 15, 3) := by decide +kernel
theorem dX3_init_16 : decode cX3_init 16 = .ok (.aload_n 0, 1) := by decide +kernel
theorem dX3_init_17 : decode cX3_init 17 = .ok (.bipush 55, 2) := by decide +kernel
theorem dX3_init_19 : decode cX3_init 19 = .ok (.newarray .int, 2) := by decide +kernel
theorem dX3_init_21 : decode cX3_init 21 = .ok (.putfield 19, 3) := by decide +kernel
theorem dX3_init_24 : decode cX3_init 24 = .ok (.aload_n 0, 1) := by decide +kernel
theorem dX3_init_25 : decode cX3_init 25 = .ok (.iconst (-1), 1) := by decide +kernel
theorem dX3_init_26 : decode cX3_init 26 = .ok (.putfield 22, 3) := by decide +kernel
theorem dX3_init_29 : decode cX3_init 29 = .ok (.aload_n 0, 1) := by decide +kernel
theorem dX3_init_30 : decode cX3_init 30 = .ok (.iconst 0, 1) := by decide +kernel
theorem dX3_init_31 : decode cX3_init 31 = .ok (.putfield 26, 3) := by decide +kernel
theorem dX3_init_34 : decode cX3_init 34 = .ok (.aload_n 0, 1) := by decide +kernel
theorem dX3_init_35 : decode cX3_init 35 = .ok (.iconst 0, 1) := by decide +kernel
theorem dX3_init_36 : decode cX3_init 36 = .ok (.putfield 29, 3) := by decide +kernel
theorem dX3_init_39 : decode cX3_init 39 = .ok (.return_, 1) := by decide +kernel
theorem dX3_update_0 : decode cX3_update 0 = .ok (.aload_n 0, 1) := by decide +kernel
theorem dX3_update_1 : decode cX3_update 1 = .ok (.iconst (-1), 1) := by decide +kernel
theorem dX3_update_2 : decode cX3_update 2 = .ok (.putfield 22, 3) := by decide +kernel
theorem dX3_update_5 : decode cX3_update 5 = .ok (.aload_n 0, 1) := by decide +kernel
theorem dX3_update_6 : decode cX3_update 6 = .ok (.iconst 0, 1) := by decide +kernel
theorem dX3_update_7 : decode cX3_update 7 = .ok (.putfield 26, 3) := by decide +kernel
theorem dX3_update_10 : decode cX3_update 10 = .ok (.aload_n 0, 1) := by decide +kernel
theorem dX3_update_11 : decode cX3_update 11 = .ok (.iconst 0, 1) := by decide +kernel
theorem dX3_update_12 : decode cX3_update 12 = .ok (.putfield 29, 3) := by decide +kernel
theorem dX3_update_15 : decode cX3_update 15 = .ok (.aload_n 0, 1) := by decide +kernel
theorem dX3_update_16 : decode cX3_update 16 = .ok (.getfield 9, 3) := by decide +kernel
theorem dX3_update_19 : decode cX3_update 19 = .ok (.getfield 32, 3) := by decide +kernel
theorem dX3_update_22 : decode cX3_update 22 = .ok (.ifCond .eq 15, 3) := by decide +kernel
theorem dX3_update_25 : decode cX3_update 25 = .ok (.aload_n 0, 1) := by decide +kernel
theorem dX3_update_26 : decode cX3_update 26 = .ok (.getfield 9, 3) := by decide +kernel
theorem dX3_update_29 : decode cX3_update 29 = .ok (.getfield 32, 3) := by decide +kernel
theorem dX3_update_32 : decode cX3_update 32 = .ok (.bipush 6, 2) := by decide +kernel
theorem dX3_update_34 : decode cX3_update 34 = .ok (.if_icmp .ne 7, 3) := by decide +kernel
theorem dX3_update_37 : decode cX3_update 37 = .ok (.aload_n 0, 1) := by decide +kernel
theorem dX3_update_38 : decode cX3_update 38 = .ok (.invokevirtual 37, 3) := by decide +kernel
theorem dX3_update_41 : decode cX3_update 41 = .ok (.aload_n 0, 1) := by decide +kernel
theorem dX3_update_42 : decode cX3_update 42 = .ok (.getfield 22, 3) := by decide +kernel
theorem dX3_update_45 : decode cX3_update 45 = .ok (.iconst (-1), 1) := by decide +kernel
theorem dX3_update_46 : decode cX3_update 46 = .ok (.if_icmp .eq 35, 3) := by decide +kernel
theorem dX3_update_49 : decode cX3_update 49 = .ok (.aload_n 0, 1) := by decide +kernel
theorem dX3_update_50 : decode cX3_update 50 = .ok (.aload_n 0, 1) := by decide +kernel
theorem dX3_update_51 : decode cX3_update 51 = .ok (.getfield 22, 3) := by decide +kernel
theorem dX3_update_54 : decode cX3_update 54 = .ok (.invokevirtual 40, 3) := by decide +kernel
theorem dX3_update_57 : decode cX3_update 57 = .ok (.aload_n 0, 1) := by decide +kernel
theorem dX3_update_58 : decode cX3_update 58 = .ok (.aload_n 0, 1) := by decide +kernel
theorem dX3_update_59 : decode cX3_update 59 = .ok (.getfield 9, 3) := by decide +kernel
theorem dX3_update_62 : decode cX3_update 62 = .ok (.getfield 44, 3) := by decide +kernel
theorem dX3_update_65 : decode cX3_update 65 = .ok (.iconst 1, 1) := by decide +kernel
theorem dX3_update_66 : decode cX3_update 66 = .ok (.isub, 1) := by decide +kernel
theorem dX3_update_67 : decode cX3_update 67 = .ok (.aload_n 0, 1) := by decide +kernel
theorem dX3_update_68 : decode cX3_update 68 = .ok (.iconst 0, 1) := by decide +kernel
theorem dX3_update_69 : decode cX3_update 69 = .ok (.iconst 0, 1) := by decide +kernel
theorem dX3_update_70 : decode cX3_update 70 = .ok (.invokevirtual 47, 3) := by decide +kernel
theorem dX3_update_73 : decode cX3_update 73 = .ok (.isub, 1) := by decide +kernel
theorem dX3_update_74 : decode cX3_update 74 = .ok (.putfield 29, 3) := by decide +kernel
theorem dX3_update_77 : decode cX3_update 77 = .ok (.aload_n 0, 1) := by decide +kernel
theorem dX3_update_78 : decode cX3_update 78 = .ok (.invokevirtual 51, 3) := by decide +kernel
theorem dX3_update_81 : decode cX3_update 81 = .ok (.return_, 1) := by decide +kernel
theorem dX3_findRule_0 : decode cX3_findRule 0 = .ok (.iconst 0, 1) := by decide +kernel
theorem dX3_findRule_1 : decode cX3_findRule 1 = .ok (.istore_n 1, 1) := by decide +kernel
theorem dX3_findRule_2 : decode cX3_findRule 2 = .ok (.iconst 0, 1) := by decide +kernel
theorem dX3_findRule_3 : decode cX3_findRule 3 = .ok (.istore_n 2, 1) := by decide +kernel
theorem dX3_findRule_4 : decode cX3_findRule 4 = .ok (.iload_n 2, 1) := by decide +kernel
theorem dX3_findRule_5 : decode cX3_findRule 5 = .ok (.aload_n 0, 1) := by decide +kernel
theorem dX3_findRule_6 : decode cX3_findRule 6 = .ok (.getfield 9, 3) := by decide +kernel
theorem dX3_findRule_9 : decode cX3_findRule 9 = .ok (.getfield 54, 3) := by decide +kernel
theorem dX3_findRule_12 : decode cX3_findRule 12 = .ok (.getfield 58, 3) := by decide +kernel
theorem dX3_findRule_15 : decode cX3_findRule 15 = .ok (.if_icmp .ge 93, 3) := by decide +kernel
theorem dX3_findRule_18 : decode cX3_findRule 18 = .ok (.aload_n 0, 1) := by decide +kernel
theorem dX3_findRule_19 : decode cX3_findRule 19 = .ok (.getfield 9, 3) := by decide +kernel
theorem dX3_findRule_22 : decode cX3_findRule 22 = .ok (.getfield 54, 3) := by decide +kernel
theorem dX3_findRule_25 : decode cX3_findRule 25 = .ok (.getfield 61, 3) := by decide +kernel
theorem dX3_findRule_28 : decode cX3_findRule 28 = .ok (.iload_n 2, 1) := by decide +kernel
theorem dX3_findRule_29 : decode cX3_findRule 29 = .ok (.iaload, 1) := by decide +kernel
theorem dX3_findRule_30 : decode cX3_findRule 30 = .ok (.aload_n 0, 1) := by decide +kernel
theorem dX3_findRule_31 : decode cX3_findRule 31 = .ok (.getfield 9, 3) := by decide +kernel
theorem dX3_findRule_34 : decode cX3_findRule 34 = .ok (.getfield 64, 3) := by decide +kernel
theorem dX3_findRule_37 : decode cX3_findRule 37 = .ok (.iconst 0, 1) := by decide +kernel
theorem dX3_findRule_38 : decode cX3_findRule 38 = .ok (.iaload, 1) := by decide +kernel
theorem dX3_findRule_39 : decode cX3_findRule 39 = .ok (.if_icmp .eq 6, 3) := by decide +kernel
theorem dX3_findRule_42 : decode cX3_findRule 42 = .ok (.goto 60, 3) := by decide +kernel
theorem dX3_findRule_45 : decode cX3_findRule 45 = .ok (.aload_n 0, 1) := by decide +kernel
theorem dX3_findRule_46 : decode cX3_findRule 46 = .ok (.iload_n 2, 1) := by decide +kernel
theorem dX3_findRule_47 : decode cX3_findRule 47 = .ok (.invokevirtual 40, 3) := by decide +kernel
theorem dX3_findRule_50 : decode cX3_findRule 50 = .ok (.aload_n 0, 1) := by decide +kernel
theorem dX3_findRule_51 : decode cX3_findRule 51 = .ok (.getfield 9, 3) := by decide +kernel
theorem dX3_findRule_54 : decode cX3_findRule 54 = .ok (.getfield 54, 3) := by decide +kernel
theorem dX3_findRule_57 : decode cX3_findRule 57 = .ok (.getfield 67, 3) := by decide +kernel
theorem dX3_findRule_60 : decode cX3_findRule 60 = .ok (.iload_n 2, 1) := by decide +kernel
theorem dX3_findRule_61 : decode cX3_findRule 61 = .ok (.iaload, 1) := by decide +kernel
theorem dX3_findRule_62 : decode cX3_findRule 62 = .ok (.aload_n 0, 1) := by decide +kernel
theorem dX3_findRule_63 : decode cX3_findRule 63 = .ok (.getfield 9, 3) := by decide +kernel
theorem dX3_findRule_66 : decode cX3_findRule 66 = .ok (.getfield 44, 3) := by decide +kernel
theorem dX3_findRule_69 : decode cX3_findRule 69 = .ok (.iadd, 1) := by decide +kernel
theorem dX3_findRule_70 : decode cX3_findRule 70 = .ok (.iconst 1, 1) := by decide +kernel
theorem dX3_findRule_71 : decode cX3_findRule 71 = .ok (.isub, 1) := by decide +kernel
theorem dX3_findRule_72 : decode cX3_findRule 72 = .ok (.iconst 2, 1) := by decide +kernel
theorem dX3_findRule_73 : decode cX3_findRule 73 = .ok (.aload_n 0, 1) := by decide +kernel
theorem dX3_findRule_74 : decode cX3_findRule 74 = .ok (.iconst 0, 1) := by decide +kernel
theorem dX3_findRule_75 : decode cX3_findRule 75 = .ok (.iconst 0, 1) := by decide +kernel
theorem dX3_findRule_76 : decode cX3_findRule 76 = .ok (.invokevirtual 47, 3) := by decide +kernel
theorem dX3_findRule_79 : decode cX3_findRule 79 = .ok (.imul, 1) := by decide +kernel
theorem dX3_findRule_80 : decode cX3_findRule 80 = .ok (.isub, 1) := by decide +kernel
theorem dX3_findRule_81 : decode cX3_findRule 81 = .ok (.istore_n 3, 1) := by decide +kernel
theorem dX3_findRule_82 : decode cX3_findRule 82 = .ok (.aload_n 0, 1) := by decide +kernel
theorem dX3_findRule_83 : decode cX3_findRule 83 = .ok (.getfield 22, 3) := by decide +kernel
theorem dX3_findRule_86 : decode cX3_findRule 86 = .ok (.iconst (-1), 1) := by decide +kernel
theorem dX3_findRule_87 : decode cX3_findRule 87 = .ok (.if_icmp .eq 8, 3) := by decide +kernel
theorem dX3_findRule_90 : decode cX3_findRule 90 = .ok (.iload_n 3, 1) := by decide +kernel
theorem dX3_findRule_91 : decode cX3_findRule 91 = .ok (.iload_n 1, 1) := by decide +kernel
theorem dX3_findRule_92 : decode cX3_findRule 92 = .ok (.if_icmp .ge 10, 3) := by decide +kernel
theorem dX3_findRule_95 : decode cX3_findRule 95 = .ok (.aload_n 0, 1) := by decide +kernel
theorem dX3_findRule_96 : decode cX3_findRule 96 = .ok (.iload_n 2, 1) := by decide +kernel
theorem dX3_findRule_97 : decode cX3_findRule 97 = .ok (.putfield 22, 3) := by decide +kernel
theorem dX3_findRule_100 : decode cX3_findRule 100 = .ok (.iload_n 3, 1) := by decide +kernel
theorem dX3_findRule_101 : decode cX3_findRule 101 = .ok (.istore_n 1, 1) := by decide +kernel
theorem dX3_findRule_102 : decode cX3_findRule 102 = .ok (.iinc 2 1, 3) := by decide +kernel
theorem dX3_findRule_105 : decode cX3_findRule 105 = .ok (.goto (-101), 3) := by decide +kernel
theorem dX3_findRule_108 : decode cX3_findRule 108 = .ok (.return_, 1) := by decide +kernel
theorem dX3_pairsFrom_0 : decode cX3_pairsFrom 0 = .ok (.aload_n 0, 1) := by decide +kernel
theorem dX3_pairsFrom_1 : decode cX3_pairsFrom 1 = .ok (.getfield 19, 3) := by decide +kernel
theorem dX3_pairsFrom_4 : decode cX3_pairsFrom 4 = .ok (.iload_n 1, 1) := by decide +kernel
theorem dX3_pairsFrom_5 : decode cX3_pairsFrom 5 = .ok (.bipush 11, 2) := by decide +kernel
theorem dX3_pairsFrom_7 : decode cX3_pairsFrom 7 = .ok (.imul, 1) := by decide +kernel
theorem dX3_pairsFrom_8 : decode cX3_pairsFrom 8 = .ok (.iload_n 2, 1) := by decide +kernel
theorem dX3_pairsFrom_9 : decode cX3_pairsFrom 9 = .ok (.iadd, 1) := by decide +kernel
theorem dX3_pairsFrom_10 : decode cX3_pairsFrom 10 = .ok (.iaload, 1) := by decide +kernel
theorem dX3_pairsFrom_11 : decode cX3_pairsFrom 11 = .ok (.ireturn, 1) := by decide +kernel
theorem dX3_isPair_0 : decode cX3_isPair 0 = .ok (.aload_n 0, 1) := by decide +kernel
theorem dX3_isPair_1 : decode cX3_isPair 1 = .ok (.getfield 9, 3) := by decide +kernel
theorem dX3_isPair_4 : decode cX3_isPair 4 = .ok (.getfield 70, 3) := by decide +kernel
theorem dX3_isPair_7 : decode cX3_isPair 7 = .ok (.aload_n 0, 1) := by decide +kernel
theorem dX3_isPair_8 : decode cX3_isPair 8 = .ok (.getfield 9, 3) := by decide +kernel
theorem dX3_isPair_11 : decode cX3_isPair 11 = .ok (.getfield 64, 3) := by decide +kernel
theorem dX3_isPair_14 : decode cX3_isPair 14 = .ok (.iload_n 3, 1) := by decide +kernel
theorem dX3_isPair_15 : decode cX3_isPair 15 = .ok (.iconst 1, 1) := by decide +kernel
theorem dX3_isPair_16 : decode cX3_isPair 16 = .ok (.iadd, 1) := by decide +kernel
theorem dX3_isPair_17 : decode cX3_isPair 17 = .ok (.iaload, 1) := by decide +kernel
theorem dX3_isPair_18 : decode cX3_isPair 18 = .ok (.aload_n 0, 1) := by decide +kernel
theorem dX3_isPair_19 : decode cX3_isPair 19 = .ok (.getfield 9, 3) := by decide +kernel
theorem dX3_isPair_22 : decode cX3_isPair 22 = .ok (.getfield 54, 3) := by decide +kernel
theorem dX3_isPair_25 : decode cX3_isPair 25 = .ok (.iload_n 1, 1) := by decide +kernel
theorem dX3_isPair_26 : decode cX3_isPair 26 = .ok (.iload_n 2, 1) := by decide +kernel
theorem dX3_isPair_27 : decode cX3_isPair 27 = .ok (.invokevirtual 74, 3) := by decide +kernel
theorem dX3_isPair_30 : decode cX3_isPair 30 = .ok (.invokevirtual 77, 3) := by decide +kernel
theorem dX3_isPair_33 : decode cX3_isPair 33 = .ok (.ireturn, 1) := by decide +kernel
theorem dX3_countPairs_0 : decode cX3_countPairs 0 = .ok (.aload_n 0, 1) := by decide +kernel
theorem dX3_countPairs_1 : decode cX3_countPairs 1 = .ok (.getfield 9, 3) := by decide +kernel
theorem dX3_countPairs_4 : decode cX3_countPairs 4 = .ok (.getfield 54, 3) := by decide +kernel
theorem dX3_countPairs_7 : decode cX3_countPairs 7 = .ok (.getfield 67, 3) := by decide +kernel
theorem dX3_countPairs_10 : decode cX3_countPairs 10 = .ok (.iload_n 1, 1) := by decide +kernel
theorem dX3_countPairs_11 : decode cX3_countPairs 11 = .ok (.iaload, 1) := by decide +kernel
theorem dX3_countPairs_12 : decode cX3_countPairs 12 = .ok (.istore_n 2, 1) := by decide +kernel
theorem dX3_countPairs_13 : decode cX3_countPairs 13 = .ok (.aload_n 0, 1) := by decide +kernel
theorem dX3_countPairs_14 : decode cX3_countPairs 14 = .ok (.getfield 9, 3) := by decide +kernel
theorem dX3_countPairs_17 : decode cX3_countPairs 17 = .ok (.getfield 44, 3) := by decide +kernel
theorem dX3_countPairs_20 : decode cX3_countPairs 20 = .ok (.iconst 1, 1) := by decide +kernel
theorem dX3_countPairs_21 : decode cX3_countPairs 21 = .ok (.isub, 1) := by decide +kernel
theorem dX3_countPairs_22 : decode cX3_countPairs 22 = .ok (.istore_n 3, 1) := by decide +kernel
theorem dX3_countPairs_23 : decode cX3_countPairs 23 = .ok (.iload_n 2, 1) := by decide +kernel
theorem dX3_countPairs_24 : decode cX3_countPairs 24 = .ok (.istore 4, 2) := by decide +kernel
theorem dX3_countPairs_26 : decode cX3_countPairs 26 = .ok (.iload 4, 2) := by decide +kernel
theorem dX3_countPairs_28 : decode cX3_countPairs 28 = .ok (.ifCond .lt 111, 3) := by decide +kernel
theorem dX3_countPairs_31 : decode cX3_countPairs 31 = .ok (.iload_n 3, 1) := by decide +kernel
theorem dX3_countPairs_32 : decode cX3_countPairs 32 = .ok (.istore 5, 2) := by decide +kernel
theorem dX3_countPairs_34 : decode cX3_countPairs 34 = .ok (.iload 5, 2) := by decide +kernel
theorem dX3_countPairs_36 : decode cX3_countPairs 36 = .ok (.ifCond .lt 97, 3) := by decide +kernel
theorem dX3_countPairs_39 : decode cX3_countPairs 39 = .ok (.iconst 0, 1) := by decide +kernel
theorem dX3_countPairs_40 : decode cX3_countPairs 40 = .ok (.istore 6, 2) := by decide +kernel
theorem dX3_countPairs_42 : decode cX3_countPairs 42 = .ok (.iload 4, 2) := by decide +kernel
theorem dX3_countPairs_44 : decode cX3_countPairs 44 = .ok (.iload_n 2, 1) := by decide +kernel
theorem dX3_countPairs_45 : decode cX3_countPairs 45 = .ok (.if_icmp .ge 67, 3) := by decide +kernel
theorem dX3_countPairs_48 : decode cX3_countPairs 48 = .ok (.iload 5, 2) := by decide +kernel
theorem dX3_countPairs_50 : decode cX3_countPairs 50 = .ok (.iload_n 3, 1) := by decide +kernel
theorem dX3_countPairs_51 : decode cX3_countPairs 51 = .ok (.if_icmp .ge 61, 3) := by decide +kernel
theorem dX3_countPairs_54 : decode cX3_countPairs 54 = .ok (.aload_n 0, 1) := by decide +kernel
theorem dX3_countPairs_55 : decode cX3_countPairs 55 = .ok (.iload 4, 2) := by decide +kernel
theorem dX3_countPairs_57 : decode cX3_countPairs 57 = .ok (.iconst 1, 1) := by decide +kernel
theorem dX3_countPairs_58 : decode cX3_countPairs 58 = .ok (.iadd, 1) := by decide +kernel
theorem dX3_countPairs_59 : decode cX3_countPairs 59 = .ok (.iload 5, 2) := by decide +kernel
theorem dX3_countPairs_61 : decode cX3_countPairs 61 = .ok (.invokevirtual 47, 3) := by decide +kernel
theorem dX3_countPairs_64 : decode cX3_countPairs 64 = .ok (.aload_n 0, 1) := by decide +kernel
theorem dX3_countPairs_65 : decode cX3_countPairs 65 = .ok (.iload 4, 2) := by decide +kernel
theorem dX3_countPairs_67 : decode cX3_countPairs 67 = .ok (.iload 5, 2) := by decide +kernel
theorem dX3_countPairs_69 : decode cX3_countPairs 69 = .ok (.iconst 1, 1) := by decide +kernel
theorem dX3_countPairs_70 : decode cX3_countPairs 70 = .ok (.iadd, 1) := by decide +kernel
theorem dX3_countPairs_71 : decode cX3_countPairs 71 = .ok (.invokevirtual 47, 3) := by decide +kernel
theorem dX3_countPairs_74 : decode cX3_countPairs 74 = .ok (.invokestatic 83, 3) := by decide +kernel
theorem dX3_countPairs_77 : decode cX3_countPairs 77 = .ok (.istore 6, 2) := by decide +kernel
theorem dX3_countPairs_79 : decode cX3_countPairs 79 = .ok (.aload_n 0, 1) := by decide +kernel
theorem dX3_countPairs_80 : decode cX3_countPairs 80 = .ok (.iload_n 1, 1) := by decide +kernel
theorem dX3_countPairs_81 : decode cX3_countPairs 81 = .ok (.iload 4, 2) := by decide +kernel
theorem dX3_countPairs_83 : decode cX3_countPairs 83 = .ok (.iload 5, 2) := by decide +kernel
theorem dX3_countPairs_85 : decode cX3_countPairs 85 = .ok (.invokevirtual 88, 3) := by decide +kernel
theorem dX3_countPairs_88 : decode cX3_countPairs 88 = .ok (.ifCond .eq 24, 3) := by decide +kernel
theorem dX3_countPairs_91 : decode cX3_countPairs 91 = .ok (.iload 6, 2) := by decide +kernel
theorem dX3_countPairs_93 : decode cX3_countPairs 93 = .ok (.iconst 1, 1) := by decide +kernel
theorem dX3_countPairs_94 : decode cX3_countPairs 94 = .ok (.aload_n 0, 1) := by decide +kernel
theorem dX3_countPairs_95 : decode cX3_countPairs 95 = .ok (.iload 4, 2) := by decide +kernel
theorem dX3_countPairs_97 : decode cX3_countPairs 97 = .ok (.iconst 1, 1) := by decide +kernel
theorem dX3_countPairs_98 : decode cX3_countPairs 98 = .ok (.iadd, 1) := by decide +kernel
theorem dX3_countPairs_99 : decode cX3_countPairs 99 = .ok (.iload 5, 2) := by decide +kernel
theorem dX3_countPairs_101 : decode cX3_countPairs 101 = .ok (.iconst 1, 1) := by decide +kernel
theorem dX3_countPairs_102 : decode cX3_countPairs 102 = .ok (.iadd, 1) := by decide +kernel
theorem dX3_countPairs_103 : decode cX3_countPairs 103 = .ok (.invokevirtual 47, 3) := by decide +kernel
theorem dX3_countPairs_106 : decode cX3_countPairs 106 = .ok (.iadd, 1) := by decide +kernel
theorem dX3_countPairs_107 : decode cX3_countPairs 107 = .ok (.invokestatic 83, 3) := by decide +kernel
theorem dX3_countPairs_110 : decode cX3_countPairs 110 = .ok (.istore 6, 2) := by decide +kernel
theorem dX3_countPairs_112 : decode cX3_countPairs 112 = .ok (.aload_n 0, 1) := by decide +kernel
theorem dX3_countPairs_113 : decode cX3_countPairs 113 = .ok (.getfield 19, 3) := by decide +kernel
theorem dX3_countPairs_116 : decode cX3_countPairs 116 = .ok (.iload 4, 2) := by decide +kernel
theorem dX3_countPairs_118 : decode cX3_countPairs 118 = .ok (.bipush 11, 2) := by decide +kernel
theorem dX3_countPairs_120 : decode cX3_countPairs 120 = .ok (.imul, 1) := by decide +kernel
theorem dX3_countPairs_121 : decode cX3_countPairs 121 = .ok (.iload 5, 2) := by decide +kernel
theorem dX3_countPairs_123 : decode cX3_countPairs 123 = .ok (.iadd, 1) := by decide +kernel
theorem dX3_countPairs_124 : decode cX3_countPairs 124 = .ok (.iload 6, 2) := by decide +kernel
theorem dX3_countPairs_126 : decode cX3_countPairs 126 = .ok (.iastore, 1) := by decide +kernel
theorem dX3_countPairs_127 : decode cX3_countPairs 127 = .ok (.iinc 5 (-1), 3) := by decide +kernel
theorem dX3_countPairs_130 : decode cX3_countPairs 130 = .ok (.goto (-96), 3) := by decide +kernel
theorem dX3_countPairs_133 : decode cX3_countPairs 133 = .ok (.iinc 4 (-1), 3) := by decide +kernel
theorem dX3_countPairs_136 : decode cX3_countPairs 136 = .ok (.goto (-110), 3) := by decide +kernel
theorem dX3_countPairs_139 : decode cX3_countPairs 139 = .ok (.return_, 1) := by decide +kernel
theorem dX3_collectMissing_0 : decode cX3_collectMissing 0 = .ok (.iconst 0, 1) := by decide +kernel
theorem dX3_collectMissing_1 : decode cX3_collectMissing 1 = .ok (.istore_n 1, 1) := by decide +kernel
theorem dX3_collectMissing_2 : decode cX3_collectMissing 2 = .ok (.aload_n 0, 1) := by decide +kernel
theorem dX3_collectMissing_3 : decode cX3_collectMissing 3 = .ok (.iconst 0, 1) := by decide +kernel
theorem dX3_collectMissing_4 : decode cX3_collectMissing 4 = .ok (.iconst 0, 1) := by decide +kernel
theorem dX3_collectMissing_5 : decode cX3_collectMissing 5 = .ok (.invokevirtual 47, 3) := by decide +kernel
theorem dX3_collectMissing_8 : decode cX3_collectMissing 8 = .ok (.istore_n 2, 1) := by decide +kernel
theorem dX3_collectMissing_9 : decode cX3_collectMissing 9 = .ok (.iconst 0, 1) := by decide +kernel
theorem dX3_collectMissing_10 : decode cX3_collectMissing 10 = .ok (.istore_n 3, 1) := by decide +kernel
theorem dX3_collectMissing_11 : decode cX3_collectMissing 11 = .ok (.iload_n 3, 1) := by decide +kernel
theorem dX3_collectMissing_12 : decode cX3_collectMissing 12 = .ok (.aload_n 0, 1) := by decide +kernel
theorem dX3_collectMissing_13 : decode cX3_collectMissing 13 = .ok (.getfield 9, 3) := by decide +kernel
theorem dX3_collectMissing_16 : decode cX3_collectMissing 16 = .ok (.getfield 54, 3) := by decide +kernel
theorem dX3_collectMissing_19 : decode cX3_collectMissing 19 = .ok (.getfield 67, 3) := by decide +kernel
theorem dX3_collectMissing_22 : decode cX3_collectMissing 22 = .ok (.aload_n 0, 1) := by decide +kernel
theorem dX3_collectMissing_23 : decode cX3_collectMissing 23 = .ok (.getfield 22, 3) := by decide +kernel
theorem dX3_collectMissing_26 : decode cX3_collectMissing 26 = .ok (.iaload, 1) := by decide +kernel
theorem dX3_collectMissing_27 : decode cX3_collectMissing 27 = .ok (.if_icmp .ge 69, 3) := by decide +kernel
theorem dX3_collectMissing_30 : decode cX3_collectMissing 30 = .ok (.aload_n 0, 1) := by decide +kernel
theorem dX3_collectMissing_31 : decode cX3_collectMissing 31 = .ok (.iload_n 3, 1) := by decide +kernel
theorem dX3_collectMissing_32 : decode cX3_collectMissing 32 = .ok (.iload_n 1, 1) := by decide +kernel
theorem dX3_collectMissing_33 : decode cX3_collectMissing 33 = .ok (.iload_n 2, 1) := by decide +kernel
theorem dX3_collectMissing_34 : decode cX3_collectMissing 34 = .ok (.invokevirtual 92, 3) := by decide +kernel
theorem dX3_collectMissing_37 : decode cX3_collectMissing 37 = .ok (.istore 4, 2) := by decide +kernel
theorem dX3_collectMissing_39 : decode cX3_collectMissing 39 = .ok (.iload 4, 2) := by decide +kernel
theorem dX3_collectMissing_41 : decode cX3_collectMissing 41 = .ok (.iconst (-1), 1) := by decide +kernel
theorem dX3_collectMissing_42 : decode cX3_collectMissing 42 = .ok (.if_icmp .ne 40, 3) := by decide +kernel
theorem dX3_collectMissing_45 : decode cX3_collectMissing 45 = .ok (.aload_n 0, 1) := by decide +kernel
theorem dX3_collectMissing_46 : decode cX3_collectMissing 46 = .ok (.getfield 15, 3) := by decide +kernel
theorem dX3_collectMissing_49 : decode cX3_collectMissing 49 = .ok (.aload_n 0, 1) := by decide +kernel
theorem dX3_collectMissing_50 : decode cX3_collectMissing 50 = .ok (.getfield 26, 3) := by decide +kernel
theorem dX3_collectMissing_53 : decode cX3_collectMissing 53 = .ok (.aload_n 0, 1) := by decide +kernel
theorem dX3_collectMissing_54 : decode cX3_collectMissing 54 = .ok (.getfield 9, 3) := by decide +kernel
theorem dX3_collectMissing_57 : decode cX3_collectMissing 57 = .ok (.getfield 54, 3) := by decide +kernel
theorem dX3_collectMissing_60 : decode cX3_collectMissing 60 = .ok (.aload_n 0, 1) := by decide +kernel
theorem dX3_collectMissing_61 : decode cX3_collectMissing 61 = .ok (.getfield 22, 3) := by decide +kernel
theorem dX3_collectMissing_64 : decode cX3_collectMissing 64 = .ok (.iload_n 3, 1) := by decide +kernel
theorem dX3_collectMissing_65 : decode cX3_collectMissing 65 = .ok (.invokevirtual 74, 3) := by decide +kernel
theorem dX3_collectMissing_68 : decode cX3_collectMissing 68 = .ok (.iastore, 1) := by decide +kernel
theorem dX3_collectMissing_69 : decode cX3_collectMissing 69 = .ok (.aload_n 0, 1) := by decide +kernel
theorem dX3_collectMissing_70 : decode cX3_collectMissing 70 = .ok (.dup, 1) := by decide +kernel
theorem dX3_collectMissing_71 : decode cX3_collectMissing 71 = .ok (.getfield 26, 3) := by decide +kernel
theorem dX3_collectMissing_74 : decode cX3_collectMissing 74 = .ok (.iconst 1, 1) := by decide +kernel
theorem dX3_collectMissing_75 : decode cX3_collectMissing 75 = .ok (.iadd, 1) := by decide +kernel
theorem dX3_collectMissing_76 : decode cX3_collectMissing 76 = .ok (.putfield 26, 3) := by decide +kernel
theorem dX3_collectMissing_79 : decode cX3_collectMissing 79 = .ok (.goto 11, 3) := by decide +kernel
theorem dX3_collectMissing_82 : decode cX3_collectMissing 82 = .ok (.iload 4, 2) := by decide +kernel
theorem dX3_collectMissing_84 : decode cX3_collectMissing 84 = .ok (.iconst 1, 1) := by decide +kernel
theorem dX3_collectMissing_85 : decode cX3_collectMissing 85 = .ok (.iadd, 1) := by decide +kernel
theorem dX3_collectMissing_86 : decode cX3_collectMissing 86 = .ok (.istore_n 1, 1) := by decide +kernel
theorem dX3_collectMissing_87 : decode cX3_collectMissing 87 = .ok (.iinc 2 (-1), 3) := by decide +kernel
theorem dX3_collectMissing_90 : decode cX3_collectMissing 90 = .ok (.iinc 3 1, 3) := by decide +kernel
theorem dX3_collectMissing_93 : decode cX3_collectMissing 93 = .ok (.goto (-82), 3) := by decide +kernel
theorem dX3_collectMissing_96 : decode cX3_collectMissing 96 = .ok (.return_, 1) := by decide +kernel
theorem dX3_findPartner_0 : decode cX3_findPartner 0 = .ok (.iload_n 2, 1) := by decide +kernel
theorem dX3_findPartner_1 : decode cX3_findPartner 1 = .ok (.istore 4, 2) := by decide +kernel
theorem dX3_findPartner_3 : decode cX3_findPartner 3 = .ok (.iload 4, 2) := by decide +kernel
theorem dX3_findPartner_5 : decode cX3_findPartner 5 = .ok (.aload_n 0, 1) := by decide +kernel
theorem dX3_findPartner_6 : decode cX3_findPartner 6 = .ok (.getfield 9, 3) := by decide +kernel
theorem dX3_findPartner_9 : decode cX3_findPartner 9 = .ok (.getfield 44, 3) := by decide +kernel
theorem dX3_findPartner_12 : decode cX3_findPartner 12 = .ok (.iconst 1, 1) := by decide +kernel
theorem dX3_findPartner_13 : decode cX3_findPartner 13 = .ok (.isub, 1) := by decide +kernel
theorem dX3_findPartner_14 : decode cX3_findPartner 14 = .ok (.if_icmp .ge 43, 3) := by decide +kernel
theorem dX3_findPartner_17 : decode cX3_findPartner 17 = .ok (.aload_n 0, 1) := by decide +kernel
theorem dX3_findPartner_18 : decode cX3_findPartner 18 = .ok (.aload_n 0, 1) := by decide +kernel
theorem dX3_findPartner_19 : decode cX3_findPartner 19 = .ok (.getfield 22, 3) := by decide +kernel
theorem dX3_findPartner_22 : decode cX3_findPartner 22 = .ok (.iload_n 1, 1) := by decide +kernel
theorem dX3_findPartner_23 : decode cX3_findPartner 23 = .ok (.iload 4, 2) := by decide +kernel
theorem dX3_findPartner_25 : decode cX3_findPartner 25 = .ok (.invokevirtual 88, 3) := by decide +kernel
theorem dX3_findPartner_28 : decode cX3_findPartner 28 = .ok (.ifCond .eq 23, 3) := by decide +kernel
theorem dX3_findPartner_31 : decode cX3_findPartner 31 = .ok (.iconst 1, 1) := by decide +kernel
theorem dX3_findPartner_32 : decode cX3_findPartner 32 = .ok (.aload_n 0, 1) := by decide +kernel
theorem dX3_findPartner_33 : decode cX3_findPartner 33 = .ok (.iload_n 1, 1) := by decide +kernel
theorem dX3_findPartner_34 : decode cX3_findPartner 34 = .ok (.iconst 1, 1) := by decide +kernel
theorem dX3_findPartner_35 : decode cX3_findPartner 35 = .ok (.iadd, 1) := by decide +kernel
theorem dX3_findPartner_36 : decode cX3_findPartner 36 = .ok (.iload 4, 2) := by decide +kernel
theorem dX3_findPartner_38 : decode cX3_findPartner 38 = .ok (.iconst 1, 1) := by decide +kernel
theorem dX3_findPartner_39 : decode cX3_findPartner 39 = .ok (.iadd, 1) := by decide +kernel
theorem dX3_findPartner_40 : decode cX3_findPartner 40 = .ok (.invokevirtual 47, 3) := by decide +kernel
theorem dX3_findPartner_43 : decode cX3_findPartner 43 = .ok (.iadd, 1) := by decide +kernel
theorem dX3_findPartner_44 : decode cX3_findPartner 44 = .ok (.iload_n 3, 1) := by decide +kernel
theorem dX3_findPartner_45 : decode cX3_findPartner 45 = .ok (.if_icmp .ne 6, 3) := by decide +kernel
theorem dX3_findPartner_48 : decode cX3_findPartner 48 = .ok (.iload 4, 2) := by decide +kernel
theorem dX3_findPartner_50 : decode cX3_findPartner 50 = .ok (.ireturn, 1) := by decide +kernel
theorem dX3_findPartner_51 : decode cX3_findPartner 51 = .ok (.iinc 4 1, 3) := by decide +kernel
theorem dX3_findPartner_54 : decode cX3_findPartner 54 = .ok (.goto (-51), 3) := by decide +kernel
theorem dX3_findPartner_57 : decode cX3_findPartner 57 = .ok (.iconst (-1), 1) := by decide +kernel
theorem dX3_findPartner_58 : decode cX3_findPartner 58 = .ok (.ireturn, 1) := by decide +kernel
theorem dX4_init_0 : decode cX4_init 0 = .ok (.aload_n 0, 1) := by decide +kernel
theorem dX4_init_1 : decode cX4_init 1 = .ok (.invokespecial 3, 3) := by decide +kernel
theorem dX4_init_4 : decode cX4_init 4 = .ok (.aload_n 0, 1) := by decide +kernel
theorem dX4_init_5 : decode cX4_init 5 = .ok (.aload_n 1, 1) := by decide +kernel
theorem dX4_init_6 : decode cX4_init 6 = .ok (.putfield 9, 3) := by decide +kernel
theorem dX4_init_9 : decode cX4_init 9 = .ok (.aload_n 0, 1) := by decide +kernel
theorem dX4_init_10 : decode cX4_init 10 = .ok (.aload_n 2, 1) := by decide +kernel
theorem dX4_init_11 : decode cX4_init 11 = .ok (.putfield 15, 3) := by decide +kernel
theorem dX4_init_14 : decode cX4_init 14 = .ok (.aload_n 0, 1) := by decide +kernel
theorem dX4_init_15 : decode cX4_init 15 = .ok (.bipush 60, 2) := by decide +kernel
theorem dX4_init_17 : decode cX4_init 17 = .ok (.newarray .int, 2) := by decide +kernel
theorem dX4_init_19 : decode cX4_init 19 = .ok (.putfield 19, 3) := by decide +kernel
theorem dX4_init_22 : decode cX4_init 22 = .ok (.aload_n 0, 1) := by decide +kernel
theorem dX4_init_23 : decode cX4_init 23 = .ok (.bipush 60, 2) := by decide +kernel
theorem dX4_init_25 : decode cX4_init 25 = .ok (.newarray .int, 2) := by decide +kernel
theorem dX4_init_27 : decode cX4_init 27 = .ok (.putfield 23, 3) := by decide +kernel
theorem dX4_init_30 : decode cX4_init 30 = .ok (.aload_n 0, 1) := by decide +kernel
theorem dX4_init_31 : decode cX4_init 31 = .ok (.bipush 60, 2) := by decide +kernel
theorem dX4_init_33 : decode cX4_init 33 = .ok (.newarray .boolean, 2) := by decide +kernel
theorem dX4_init_35 : decode cX4_init 35 = .ok (.putfield 26, 3) := by decide +kernel
theorem dX4_init_38 : decode cX4_init 38 = .ok (.aload_n 0, 1) := by decide +kernel
theorem dX4_init_39 : decode cX4_init 39 = .ok (.iconst 0, 1) := by decide +kernel
theorem dX4_init_40 : decode cX4_init 40 = .ok (.putfield 30, 3) := by decide +kernel
theorem dX4_init_43 : decode cX4_init 43 = .ok (.return_, 1) := by decide +kernel
theorem dX4_update_0 : decode cX4_update 0 = .ok (.aload_n 0, 1) := by decide +kernel
theorem dX4_update_1 : decode cX4_update 1 = .ok (.iconst 0, 1) := by decide +kernel
theorem dX4_update_2 : decode cX4_update 2 = .ok (.putfield 30, 3) := by decide +kernel
theorem dX4_update_5 : decode cX4_update 5 = .ok (.aload_n 0, 1) := by decide +kernel
theorem dX4_update_6 : decode cX4_update 6 = .ok (.getfield 9, 3) := by decide +kernel
theorem dX4_update_9 : decode cX4_update 9 = .ok (.getfield 34, 3) := by decide +kernel
theorem dX4_update_12 : decode cX4_update 12 = .ok (.iconst 3, 1) := by decide +kernel
theorem dX4_update_13 : decode cX4_update 13 = .ok (.if_icmp .ne 20, 3) := by decide +kernel
theorem dX4_update_16 : decode cX4_update 16 = .ok (.aload_n 0, 1) := by decide +kernel
theorem dX4_update_17 : decode cX4_update 17 = .ok (.getfield 15, 3) := by decide +kernel
theorem dX4_update_20 : decode cX4_update 20 = .ok (.getfield 39, 3) := by decide +kernel
theorem dX4_update_23 : decode cX4_update 23 = .ok (.getfield 45, 3) := by decide +kernel
theorem dX4_update_26 : decode cX4_update 26 = .ok (.bipush 7, 2) := by decide +kernel
theorem dX4_update_28 : decode cX4_update 28 = .ok (.iaload, 1) := by decide +kernel
theorem dX4_update_29 : decode cX4_update 29 = .ok (.iconst 1, 1) := by decide +kernel
theorem dX4_update_30 : decode cX4_update 30 = .ok (.if_icmp .eq 4, 3) := by decide +kernel
theorem dX4_update_33 : decode cX4_update 33 = .ok (.return_, 1) := by decide +kernel
theorem dX4_update_34 : decode cX4_update 34 = .ok (.iconst 0, 1) := by decide +kernel
theorem dX4_update_35 : decode cX4_update 35 = .ok (.istore_n 1, 1) := by decide +kernel
theorem dX4_update_36 : decode cX4_update 36 = .ok (.iload_n 1, 1) := by decide +kernel
theorem dX4_update_37 : decode cX4_update 37 = .ok (.aload_n 0, 1) := by decide +kernel
theorem dX4_update_38 : decode cX4_update 38 = .ok (.getfield 9, 3) := by decide +kernel
theorem dX4_update_41 : decode cX4_update 41 = .ok (.getfield 50, 3) := by decide +kernel
theorem dX4_update_44 : decode cX4_update 44 = .ok (.getfield 54, 3) := by decide +kernel
theorem dX4_update_47 : decode cX4_update 47 = .ok (.if_icmp .ge 28, 3) := by decide +kernel
theorem dX4_update_50 : decode cX4_update 50 = .ok (.aload_n 0, 1) := by decide +kernel
theorem dX4_update_51 : decode cX4_update 51 = .ok (.getfield 9, 3) := by decide +kernel
theorem dX4_update_54 : decode cX4_update 54 = .ok (.getfield 50, 3) := by decide +kernel
theorem dX4_update_57 : decode cX4_update 57 = .ok (.iload_n 1, 1) := by decide +kernel
theorem dX4_update_58 : decode cX4_update 58 = .ok (.invokevirtual 57, 3) := by decide +kernel
theorem dX4_update_61 : decode cX4_update 61 = .ok (.ifCond .eq 8, 3) := by decide +kernel
theorem dX4_update_64 : decode cX4_update 64 = .ok (.aload_n 0, 1) := by decide +kernel
theorem dX4_update_65 : decode cX4_update 65 = .ok (.iload_n 1, 1) := by decide +kernel
theorem dX4_update_66 : decode cX4_update 66 = .ok (.invokevirtual 61, 3) := by decide +kernel
theorem dX4_update_69 : decode cX4_update 69 = .ok (.iinc 1 1, 3) := by decide +kernel
theorem dX4_update_72 : decode cX4_update 72 = .ok (.goto (-36), 3) := by decide +kernel
theorem dX4_update_75 : decode cX4_update 75 = .ok (.return_, 1) := by decide +kernel
theorem dX4_consider_0 : decode cX4_consider 0 = .ok (.aload_n 0, 1) := by decide +kernel
theorem dX4_consider_1 : decode cX4_consider 1 = .ok (.getfield 9, 3) := by decide +kernel
theorem dX4_consider_4 : decode cX4_consider 4 = .ok (.getfield 65, 3) := by decide +kernel
theorem dX4_consider_7 : decode cX4_consider 7 = .ok (.istore_n 2, 1) := by decide +kernel
theorem dX4_consider_8 : decode cX4_consider 8 = .ok (.aload_n 0, 1) := by decide +kernel
theorem dX4_consider_9 : decode cX4_consider 9 = .ok (.getfield 15, 3) := by decide +kernel
theorem dX4_consider_12 : decode cX4_consider 12 = .ok (.iload_n 1, 1) := by decide +kernel
theorem dX4_consider_13 : decode cX4_consider 13 = .ok (.aload_n 0, 1) := by decide +kernel
theorem dX4_consider_14 : decode cX4_consider 14 = .ok (.getfield 9, 3) := by decide +kernel
theorem dX4_consider_17 : decode cX4_consider 17 = .ok (.getfield 68, 3) := by decide +kernel
theorem dX4_consider_20 : decode cX4_consider 20 = .ok (.iload_n 2, 1) := by decide +kernel
theorem dX4_consider_21 : decode cX4_consider 21 = .ok (.invokevirtual 72, 3) := by decide +kernel
theorem dX4_consider_24 : decode cX4_consider 24 = .ok (.istore_n 3, 1) := by decide +kernel
theorem dX4_consider_25 : decode cX4_consider 25 = .ok (.iload_n 3, 1) := by decide +kernel
theorem dX4_consider_26 : decode cX4_consider 26 = .ok (.iconst (-1), 1) := by decide +kernel
theorem dX4_consider_27 : decode cX4_consider 27 = .ok (.if_icmp .ne 4, 3) := by decide +kernel
theorem dX4_consider_30 : decode cX4_consider 30 = .ok (.return_, 1) := by decide +kernel
theorem dX4_consider_31 : decode cX4_consider 31 = .ok (.aload_n 0, 1) := by decide +kernel
theorem dX4_consider_32 : decode cX4_consider 32 = .ok (.getfield 15, 3) := by decide +kernel
theorem dX4_consider_35 : decode cX4_consider 35 = .ok (.getfield 39, 3) := by decide +kernel
theorem dX4_consider_38 : decode cX4_consider 38 = .ok (.getfield 45, 3) := by decide +kernel
theorem dX4_consider_41 : decode cX4_consider 41 = .ok (.astore 4, 2) := by decide +kernel
theorem dX4_consider_43 : decode cX4_consider 43 = .ok (.aload_n 0, 1) := by decide +kernel
theorem dX4_consider_44 : decode cX4_consider 44 = .ok (.getfield 15, 3) := by decide +kernel
theorem dX4_consider_47 : decode cX4_consider 47 = .ok (.getfield 76, 3) := by decide +kernel
theorem dX4_consider_50 : decode cX4_consider 50 = .ok (.istore 5, 2) := by decide +kernel
theorem dX4_consider_52 : decode cX4_consider 52 = .ok (.aload_n 0, 1) := by decide +kernel
theorem dX4_consider_53 : decode cX4_consider 53 = .ok (.getfield 9, 3) := by decide +kernel
theorem dX4_consider_56 : decode cX4_consider 56 = .ok (.getfield 68, 3) := by decide +kernel
theorem dX4_consider_59 : decode cX4_consider 59 = .ok (.getfield 79, 3) := by decide +kernel
theorem dX4_consider_62 : decode cX4_consider 62 = .ok (.iload_n 2, 1) := by decide +kernel
theorem dX4_consider_63 : decode cX4_consider 63 = .ok (.iaload, 1) := by decide +kernel
theorem dX4_consider_64 : decode cX4_consider 64 = .ok (.aload 4, 2) := by decide +kernel
theorem dX4_consider_66 : decode cX4_consider 66 = .ok (.iconst 0, 1) := by decide +kernel
theorem dX4_consider_67 : decode cX4_consider 67 = .ok (.iaload, 1) := by decide +kernel
theorem dX4_consider_68 : decode cX4_consider 68 = .ok (.imul, 1) := by decide +kernel
theorem dX4_consider_69 : decode cX4_consider 69 = .ok (.aload_n 0, 1) := by decide +kernel
theorem dX4_consider_70 : decode cX4_consider 70 = .ok (.getfield 9, 3) := by decide +kernel
theorem dX4_consider_73 : decode cX4_consider 73 = .ok (.getfield 84, 3) := by decide +kernel
theorem dX4_consider_76 : decode cX4_consider 76 = .ok (.getfield 88, 3) := by decide +kernel
theorem dX4_consider_79 : decode cX4_consider 79 = .ok (.iload_n 3, 1) := by decide +kernel
theorem dX4_consider_80 : decode cX4_consider 80 = .ok (.iaload, 1) := by decide +kernel
theorem dX4_consider_81 : decode cX4_consider 81 = .ok (.aload 4, 2) := by decide +kernel
theorem dX4_consider_83 : decode cX4_consider 83 = .ok (.iconst 1, 1) := by decide +kernel
theorem dX4_consider_84 : decode cX4_consider 84 = .ok (.iaload, 1) := by decide +kernel
theorem dX4_consider_85 : decode cX4_consider 85 = .ok (.imul, 1) := by decide +kernel
theorem dX4_consider_86 : decode cX4_consider 86 = .ok (.iadd, 1) := by decide +kernel
theorem dX4_consider_87 : decode cX4_consider 87 = .ok (.istore 6, 2) := by decide +kernel
theorem dX4_consider_89 : decode cX4_consider 89 = .ok (.iload 5, 2) := by decide +kernel
theorem dX4_consider_91 : decode cX4_consider 91 = .ok (.aload 4, 2) := by decide +kernel
theorem dX4_consider_93 : decode cX4_consider 93 = .ok (.iconst 5, 1) := by decide +kernel
theorem dX4_consider_94 : decode cX4_consider 94 = .ok (.iaload, 1) := by decide +kernel
theorem dX4_consider_95 : decode cX4_consider 95 = .ok (.if_icmp .gt 25, 3) := by decide +kernel
theorem dX4_consider_98 : decode cX4_consider 98 = .ok (.iload 5, 2) := by decide +kernel
theorem dX4_consider_100 : decode cX4_consider 100 = .ok (.iload 6, 2) := by decide +kernel
theorem dX4_consider_102 : decode cX4_consider 102 = .ok (.if_icmp .ge 18, 3) := by decide +kernel
theorem dX4_consider_105 : decode cX4_consider 105 = .ok (.aload_n 0, 1) := by decide +kernel
theorem dX4_consider_106 : decode cX4_consider 106 = .ok (.iload_n 1, 1) := by decide +kernel
theorem dX4_consider_107 : decode cX4_consider 107 = .ok (.iload 5, 2) := by decide +kernel
theorem dX4_consider_109 : decode cX4_consider 109 = .ok (.aload_n 0, 1) := by decide +kernel
theorem dX4_consider_110 : decode cX4_consider 110 = .ok (.getfield 9, 3) := by decide +kernel
theorem dX4_consider_113 : decode cX4_consider 113 = .ok (.iload_n 1, 1) := by decide +kernel
theorem dX4_consider_114 : decode cX4_consider 114 = .ok (.invokevirtual 91, 3) := by decide +kernel
theorem dX4_consider_117 : decode cX4_consider 117 = .ok (.invokevirtual 94, 3) := by decide +kernel
theorem dX4_consider_120 : decode cX4_consider 120 = .ok (.return_, 1) := by decide +kernel
theorem dX4_insert_0 : decode cX4_insert 0 = .ok (.aload_n 0, 1) := by decide +kernel
theorem dX4_insert_1 : decode cX4_insert 1 = .ok (.getfield 30, 3) := by decide +kernel
theorem dX4_insert_4 : decode cX4_insert 4 = .ok (.istore 4, 2) := by decide +kernel
theorem dX4_insert_6 : decode cX4_insert 6 = .ok (.iload 4, 2) := by decide +kernel
theorem dX4_insert_8 : decode cX4_insert 8 = .ok (.ifCond .le 70, 3) := by decide +kernel
theorem dX4_insert_11 : decode cX4_insert 11 = .ok (.aload_n 0, 1) := by decide +kernel
theorem dX4_insert_12 : decode cX4_insert 12 = .ok (.iload_n 2, 1) := by decide +kernel
theorem dX4_insert_13 : decode cX4_insert 13 = .ok (.iload_n 3, 1) := by decide +kernel
theorem dX4_insert_14 : decode cX4_insert 14 = .ok (.iload 4, 2) := by decide +kernel
theorem dX4_insert_16 : decode cX4_insert 16 = .ok (.iconst 1, 1) := by decide +kernel
theorem dX4_insert_17 : decode cX4_insert 17 = .ok (.isub, 1) := by decide +kernel
theorem dX4_insert_18 : decode cX4_insert 18 = .ok (.invokevirtual 98, 3) := by decide +kernel
theorem dX4_insert_21 : decode cX4_insert 21 = .ok (.ifCond .eq 57, 3) := by decide +kernel
theorem dX4_insert_24 : decode cX4_insert 24 = .ok (.aload_n 0, 1) := by decide +kernel
theorem dX4_insert_25 : decode cX4_insert 25 = .ok (.getfield 19, 3) := by decide +kernel
theorem dX4_insert_28 : decode cX4_insert 28 = .ok (.iload 4, 2) := by decide +kernel
theorem dX4_insert_30 : decode cX4_insert 30 = .ok (.aload_n 0, 1) := by decide +kernel
theorem dX4_insert_31 : decode cX4_insert 31 = .ok (.getfield 19, 3) := by decide +kernel
theorem dX4_insert_34 : decode cX4_insert 34 = .ok (.iload 4, 2) := by decide +kernel
theorem dX4_insert_36 : decode cX4_insert 36 = .ok (.iconst 1, 1) := by decide +kernel
theorem dX4_insert_37 : decode cX4_insert 37 = .ok (.isub, 1) := by decide +kernel
theorem dX4_insert_38 : decode cX4_insert 38 = .ok (.iaload, 1) := by decide +kernel
theorem dX4_insert_39 : decode cX4_insert 39 = .ok (.iastore, 1) := by decide +kernel
theorem dX4_insert_40 : decode cX4_insert 40 = .ok (.aload_n 0, 1) := by decide +kernel
theorem dX4_insert_41 : decode cX4_insert 41 = .ok (.getfield 23, 3) := by decide +kernel
theorem dX4_insert_44 : decode cX4_insert 44 = .ok (.iload 4, 2) := by decide +kernel
theorem dX4_insert_46 : decode cX4_insert 46 = .ok (.aload_n 0, 1) := by decide +kernel
theorem dX4_insert_47 : decode cX4_insert 47 = .ok (.getfield 23, 3) := by decide +kernel
theorem dX4_insert_50 : decode cX4_insert 50 = .ok (.iload 4, 2) := by decide +kernel
theorem dX4_insert_52 : decode cX4_insert 52 = .ok (.iconst 1, 1) := by decide +kernel
theorem dX4_insert_53 : decode cX4_insert 53 = .ok (.isub, 1) := by decide +kernel
theorem dX4_insert_54 : decode cX4_insert 54 = .ok (.iaload, 1) := by decide +kernel
theorem dX4_insert_55 : decode cX4_insert 55 = .ok (.iastore, 1) := by decide +kernel
theorem dX4_insert_56 : decode cX4_insert 56 = .ok (.aload_n 0, 1) := by decide +kernel
theorem dX4_insert_57 : decode cX4_insert 57 = .ok (.getfield 26, 3) := by decide +kernel
theorem dX4_insert_60 : decode cX4_insert 60 = .ok (.iload 4, 2) := by decide +kernel
theorem dX4_insert_62 : decode cX4_insert 62 = .ok (.aload_n 0, 1) := by decide +kernel
theorem dX4_insert_63 : decode cX4_insert 63 = .ok (.getfield 26, 3) := by decide +kernel
theorem dX4_insert_66 : decode cX4_insert 66 = .ok (.iload 4, 2) := by decide +kernel
theorem dX4_insert_68 : decode cX4_insert 68 = .ok (.iconst 1, 1) := by decide +kernel
theorem dX4_insert_69 : decode cX4_insert 69 = .ok (.isub, 1) := by decide +kernel
theorem dX4_insert_70 : decode cX4_insert 70 = .ok (.baload, 1) := by decide +kernel
theorem dX4_insert_71 : decode cX4_insert 71 = .ok (.bastore, 1) := by decide +kernel
theorem dX4_insert_72 : decode cX4_insert 72 = .ok (.iinc 4 (-1), 3) := by decide +kernel
theorem dX4_insert_75 : decode cX4_insert 75 = .ok (.goto (-69), 3) := by decide +kernel
theorem dX4_insert_78 : decode cX4_insert 78 = .ok (.aload_n 0, 1) := by decide +kernel
theorem dX4_insert_79 : decode cX4_insert 79 = .ok (.getfield 19, 3) := by decide +kernel
theorem dX4_insert_82 : decode cX4_insert 82 = .ok (.iload 4, 2) := by decide +kernel
theorem dX4_insert_84 : decode cX4_insert 84 = .ok (.iload_n 1, 1) := by decide +kernel
theorem dX4_insert_85 : decode cX4_insert 85 = .ok (.iastore, 1) := by decide +kernel
theorem dX4_insert_86 : decode cX4_insert 86 = .ok (.aload_n 0, 1) := by decide +kernel
theorem dX4_insert_87 : decode cX4_insert 87 = .ok (.getfield 23, 3) := by decide +kernel
theorem dX4_insert_90 : decode cX4_insert 90 = .ok (.iload 4, 2) := by decide +kernel
theorem dX4_insert_92 : decode cX4_insert 92 = .ok (.iload_n 2, 1) := by decide +kernel
theorem dX4_insert_93 : decode cX4_insert 93 = .ok (.iastore, 1) := by decide +kernel
theorem dX4_insert_94 : decode cX4_insert 94 = .ok (.aload_n 0, 1) := by decide +kernel
theorem dX4_insert_95 : decode cX4_insert 95 = .ok (.getfield 26, 3) := by decide +kernel
theorem dX4_insert_98 : decode cX4_insert 98 = .ok (.iload 4, 2) := by decide +kernel
theorem dX4_insert_100 : decode cX4_insert 100 = .ok (.iload_n 3, 1) := by decide +kernel
theorem dX4_insert_101 : decode cX4_insert 101 = .ok (.bastore, 1) := by decide +kernel
theorem dX4_insert_102 : decode cX4_insert 102 = .ok (.aload_n 0, 1) := by decide +kernel
theorem dX4_insert_103 : decode cX4_insert 103 = .ok (.dup, 1) := by decide +kernel
theorem dX4_insert_104 : decode cX4_insert 104 = .ok (.getfield 30, 3) := by decide +kernel
theorem dX4_insert_107 : decode cX4_insert 107 = .ok (.iconst 1, 1) := by decide +kernel
theorem dX4_insert_108 : decode cX4_insert 108 = .ok (.iadd, 1) := by decide +kernel
theorem dX4_insert_109 : decode cX4_insert 109 = .ok (.putfield 30, 3) := by decide +kernel
theorem dX4_insert_112 : decode cX4_insert 112 = .ok (.return_, 1) := by decide +kernel
theorem dX4_isBefore_0 : decode cX4_isBefore 0 = .ok (.iload_n 1, 1) := by decide +kernel
theorem dX4_isBefore_1 : decode cX4_isBefore 1 = .ok (.aload_n 0, 1) := by decide +kernel
theorem dX4_isBefore_2 : decode cX4_isBefore 2 = .ok (.getfield 23, 3) := by decide +kernel
theorem dX4_isBefore_5 : decode cX4_isBefore 5 = .ok (.iload_n 3, 1) := by decide +kernel
theorem dX4_isBefore_6 : decode cX4_isBefore 6 = .ok (.iaload, 1) := by decide +kernel
theorem dX4_isBefore_7 : decode cX4_isBefore 7 = .ok (.if_icmp .lt 26, 3) := by decide +kernel
theorem dX4_isBefore_10 : decode cX4_isBefore 10 = .ok (.iload_n 1, 1) := by decide +kernel
theorem dX4_isBefore_11 : decode cX4_isBefore 11 = .ok (.aload_n 0, 1) := by decide +kernel
theorem dX4_isBefore_12 : decode cX4_isBefore 12 = .ok (.getfield 23, 3) := by decide +kernel
theorem dX4_isBefore_15 : decode cX4_isBefore 15 = .ok (.iload_n 3, 1) := by decide +kernel
theorem dX4_isBefore_16 : decode cX4_isBefore 16 = .ok (.iaload, 1) := by decide +kernel
theorem dX4_isBefore_17 : decode cX4_isBefore 17 = .ok (.if_icmp .ne 20, 3) := by decide +kernel
theorem dX4_isBefore_20 : decode cX4_isBefore 20 = .ok (.iload_n 2, 1) := by decide +kernel
theorem dX4_isBefore_21 : decode cX4_isBefore 21 = .ok (.ifCond .eq 16, 3) := by decide +kernel
theorem dX4_isBefore_24 : decode cX4_isBefore 24 = .ok (.aload_n 0, 1) := by decide +kernel
theorem dX4_isBefore_25 : decode cX4_isBefore 25 = .ok (.getfield 26, 3) := by decide +kernel
theorem dX4_isBefore_28 : decode cX4_isBefore 28 = .ok (.iload_n 3, 1) := by decide +kernel
theorem dX4_isBefore_29 : decode cX4_isBefore 29 = .ok (.baload, 1) := by decide +kernel
theorem dX4_isBefore_30 : decode cX4_isBefore 30 = .ok (.ifCond .ne 7, 3) := by decide +kernel
theorem dX4_isBefore_33 : decode cX4_isBefore 33 = .ok (.iconst 1, 1) := by decide +kernel
theorem dX4_isBefore_34 : decode cX4_isBefore 34 = .ok (.goto 4, 3) := by decide +kernel
theorem dX4_isBefore_37 : decode cX4_isBefore 37 = .ok (.iconst 0, 1) := by decide +kernel
theorem dX4_isBefore_38 : decode cX4_isBefore 38 = .ok (.ireturn, 1) := by decide +kernel
theorem dX5_init_0 : decode cX5_init 0 = .ok (.aload_n 0, 1) := by decide +kernel
theorem dX5_init_1 : decode cX5_init 1 = .ok (.invokespecial 3, 3) := by decide +kernel
theorem dX5_init_4 : decode cX5_init 4 = .ok (.aload_n 0, 1) := by decide +kernel
theorem dX5_init_5 : decode cX5_init 5 = .ok (.aload_n 1, 1) := by decide +kernel
theorem dX5_init_6 : decode cX5_init 6 = .ok (.putfield 9, 3) := by decide +kernel
theorem dX5_init_9 : decode cX5_init 9 = .ok (.aload_n 0, 1) := by decide +kernel
theorem dX5_init_10 : decode cX5_init 10 = .ok (.aload_n 2, 1) := by decide +kernel
theorem dX5_init_11 : decode cX5_init 11 = .ok (.putfield 15, 3) := by decide +kernel
theorem dX5_init_14 : decode cX5_init 14 = .ok (.aload_n 0, 1) := by decide +kernel
theorem dX5_init_15 : decode cX5_init 15 = .ok (.aload_n 3, 1) := by decide +kernel
theorem dX5_init_16 : decode cX5_init 16 = .ok (.putfield 19, 3) := by decide +kernel
theorem dX5_init_19 : decode cX5_init 19 = .ok (.aload_n 0, 1) := by decide +kernel
theorem dX5_init_20 : decode cX5_init 20 = .ok (.aload 4, 2) := by decide +kernel
theorem dX5_init_22 : decode cX5_init 22 = .ok (.putfield 23, 3) := by decide +kernel
theorem dX5_init_25 : decode cX5_init 25 = .ok (.aload_n 0, 1) := by decide +kernel
theorem dX5_init_26 : decode cX5_init 26 = .ok (.bipush 10, 2) := by decide +kernel
theorem dX5_init_28 : decode cX5_init 28 = .ok (.newarray .int, 2) := by decide +kernel
theorem dX5_init_30 : decode cX5_init 30 = .ok (.putfield 27, 3) := by decide +kernel
theorem dX5_init_33 : decode cX5_init 33 = .ok (.aload_n 0, 1) := by decide +kernel
theorem dX5_init_34 : decode cX5_init 34 = .ok (.bipush 10, 2) := by decide +kernel
theorem dX5_init_36 : decode cX5_init 36 = .ok (.newarray .int, 2) := by decide +kernel
theorem dX5_init_38 : decode cX5_init 38 = .ok (.putfield 31, 3) := by decide +kernel
theorem dX5_init_41 : decode cX5_init 41 = .ok (.aload_n 0, 1) := by decide +kernel
theorem dX5_init_42 : decode cX5_init 42 = .ok (.iconst 0, 1) := by decide +kernel
theorem dX5_init_43 : decode cX5_init 43 = .ok (.putfield 34, 3) := by decide +kernel
theorem dX5_init_46 : decode cX5_init 46 = .ok (.aload_n 0, 1) := by decide +kernel
theorem dX5_init_47 : decode cX5_init 47 = .ok (.iconst 1, 1) := by decide +kernel
theorem dX5_init_48 : decode cX5_init 48 = .ok (.putfield 38, 3) := by decide +kernel
theorem dX5_init_51 : decode cX5_init 51 = .ok (.aload_n 0, 1) := by decide +kernel
theorem dX5_init_52 : decode cX5_init 52 = .ok (.iconst (-1), 1) := by decide +kernel
theorem dX5_init_53 : decode cX5_init 53 = .ok (.putfield 41, 3) := by decide +kernel
theorem dX5_init_56 : decode cX5_init 56 = .ok (.aload_n 0, 1) := by decide +kernel
theorem dX5_init_57 : decode cX5_init 57 = .ok (.iconst (-1), 1) := by decide +kernel
theorem dX5_init_58 : decode cX5_init 58 = .ok (.putfield 44, 3) := by decide +kernel
theorem dX5_init_61 : decode cX5_init 61 = .ok (.aload_n 0, 1) := by decide +kernel
theorem dX5_init_62 : decode cX5_init 62 = .ok (.iconst (-1), 1) := by decide +kernel
theorem dX5_init_63 : decode cX5_init 63 = .ok (.putfield 47, 3) := by decide +kernel
theorem dX5_init_66 : decode cX5_init 66 = .ok (.return_, 1) := by decide +kernel
theorem dX5_update_0 : decode cX5_update 0 = .ok (.aload_n 0, 1) := by decide +kernel
theorem dX5_update_1 : decode cX5_update 1 = .ok (.invokevirtual 50, 3) := by decide +kernel
theorem dX5_update_4 : decode cX5_update 4 = .ok (.aload_n 0, 1) := by decide +kernel
theorem dX5_update_5 : decode cX5_update 5 = .ok (.iconst (-1), 1) := by decide +kernel
theorem dX5_update_6 : decode cX5_update 6 = .ok (.putfield 41, 3) := by decide +kernel
theorem dX5_update_9 : decode cX5_update 9 = .ok (.aload_n 0, 1) := by decide +kernel
theorem dX5_update_10 : decode cX5_update 10 = .ok (.iconst (-1), 1) := by decide +kernel
theorem dX5_update_11 : decode cX5_update 11 = .ok (.putfield 44, 3) := by decide +kernel
theorem dX5_update_14 : decode cX5_update 14 = .ok (.aload_n 0, 1) := by decide +kernel
theorem dX5_update_15 : decode cX5_update 15 = .ok (.iconst (-1), 1) := by decide +kernel
theorem dX5_update_16 : decode cX5_update 16 = .ok (.putfield 47, 3) := by decide +kernel
theorem dX5_update_19 : decode cX5_update 19 = .ok (.aload_n 0, 1) := by decide +kernel
theorem dX5_update_20 : decode cX5_update 20 = .ok (.aload_n 0, 1) := by decide +kernel
theorem dX5_update_21 : decode cX5_update 21 = .ok (.invokevirtual 53, 3) := by decide +kernel
theorem dX5_update_24 : decode cX5_update 24 = .ok (.putfield 38, 3) := by decide +kernel
theorem dX5_update_27 : decode cX5_update 27 = .ok (.return_, 1) := by decide +kernel
theorem dX5_wordOfTyped_0 : decode cX5_wordOfTyped 0 = .ok (.aload_n 0, 1) := by decide +kernel
theorem dX5_wordOfTyped_1 : decode cX5_wordOfTyped 1 = .ok (.getfield 15, 3) := by decide +kernel
theorem dX5_wordOfTyped_4 : decode cX5_wordOfTyped 4 = .ok (.aload_n 0, 1) := by decide +kernel
theorem dX5_wordOfTyped_5 : decode cX5_wordOfTyped 5 = .ok (.getfield 9, 3) := by decide +kernel
theorem dX5_wordOfTyped_8 : decode cX5_wordOfTyped 8 = .ok (.getfield 57, 3) := by decide +kernel
theorem dX5_wordOfTyped_11 : decode cX5_wordOfTyped 11 = .ok (.aload_n 0, 1) := by decide +kernel
theorem dX5_wordOfTyped_12 : decode cX5_wordOfTyped 12 = .ok (.getfield 9, 3) := by decide +kernel
theorem dX5_wordOfTyped_15 : decode cX5_wordOfTyped 15 = .ok (.getfield 62, 3) := by decide +kernel
theorem dX5_wordOfTyped_18 : decode cX5_wordOfTyped 18 = .ok (.iload_n 1, 1) := by decide +kernel
theorem dX5_wordOfTyped_19 : decode cX5_wordOfTyped 19 = .ok (.iaload, 1) := by decide +kernel
theorem dX5_wordOfTyped_20 : decode cX5_wordOfTyped 20 = .ok (.aload_n 0, 1) := by decide +kernel
theorem dX5_wordOfTyped_21 : decode cX5_wordOfTyped 21 = .ok (.getfield 9, 3) := by decide +kernel
theorem dX5_wordOfTyped_24 : decode cX5_wordOfTyped 24 = .ok (.getfield 65, 3) := by decide +kernel
theorem dX5_wordOfTyped_27 : decode cX5_wordOfTyped 27 = .ok (.iload_n 1, 1) := by decide +kernel
theorem dX5_wordOfTyped_28 : decode cX5_wordOfTyped 28 = .ok (.iaload, 1) := by decide +kernel
theorem dX5_wordOfTyped_29 : decode cX5_wordOfTyped 29 = .ok (.invokevirtual 68, 3) := by decide +kernel
theorem dX5_wordOfTyped_32 : decode cX5_wordOfTyped 32 = .ok (.istore_n 2, 1) := by decide +kernel
theorem dX5_wordOfTyped_33 : decode cX5_wordOfTyped 33 = .ok (.iload_n 2, 1) := by decide +kernel
theorem dX5_wordOfTyped_34 : decode cX5_wordOfTyped 34 = .ok (.iconst (-1), 1) := by decide +kernel
theorem dX5_wordOfTyped_35 : decode cX5_wordOfTyped 35 = .ok (.if_icmp .ne 7, 3) := by decide +kernel
theorem dX5_wordOfTyped_38 : decode cX5_wordOfTyped 38 = .ok (.iconst (-1), 1) := by decide +kernel
theorem dX5_wordOfTyped_39 : decode cX5_wordOfTyped 39 = .ok (.goto 12, 3) := by decide +kernel
theorem dX5_wordOfTyped_42 : decode cX5_wordOfTyped 42 = .ok (.aload_n 0, 1) := by decide +kernel
theorem dX5_wordOfTyped_43 : decode cX5_wordOfTyped 43 = .ok (.getfield 15, 3) := by decide +kernel
theorem dX5_wordOfTyped_46 : decode cX5_wordOfTyped 46 = .ok (.getfield 74, 3) := by decide +kernel
theorem dX5_wordOfTyped_49 : decode cX5_wordOfTyped 49 = .ok (.iload_n 2, 1) := by decide +kernel
theorem dX5_wordOfTyped_50 : decode cX5_wordOfTyped 50 = .ok (.iaload, 1) := by decide +kernel
theorem dX5_wordOfTyped_51 : decode cX5_wordOfTyped 51 = .ok (.ireturn, 1) := by decide +kernel
theorem dX5_collectMeant_0 : decode cX5_collectMeant 0 = .ok (.aload_n 0, 1) := by decide +kernel
theorem dX5_collectMeant_1 : decode cX5_collectMeant 1 = .ok (.iconst 0, 1) := by decide +kernel
theorem dX5_collectMeant_2 : decode cX5_collectMeant 2 = .ok (.putfield 34, 3) := by decide +kernel
theorem dX5_collectMeant_5 : decode cX5_collectMeant 5 = .ok (.iconst 0, 1) := by decide +kernel
theorem dX5_collectMeant_6 : decode cX5_collectMeant 6 = .ok (.istore_n 1, 1) := by decide +kernel
theorem dX5_collectMeant_7 : decode cX5_collectMeant 7 = .ok (.iload_n 1, 1) := by decide +kernel
theorem dX5_collectMeant_8 : decode cX5_collectMeant 8 = .ok (.aload_n 0, 1) := by decide +kernel
theorem dX5_collectMeant_9 : decode cX5_collectMeant 9 = .ok (.getfield 9, 3) := by decide +kernel
theorem dX5_collectMeant_12 : decode cX5_collectMeant 12 = .ok (.getfield 77, 3) := by decide +kernel
theorem dX5_collectMeant_15 : decode cX5_collectMeant 15 = .ok (.if_icmp .ge 57, 3) := by decide +kernel
theorem dX5_collectMeant_18 : decode cX5_collectMeant 18 = .ok (.aload_n 0, 1) := by decide +kernel
theorem dX5_collectMeant_19 : decode cX5_collectMeant 19 = .ok (.iload_n 1, 1) := by decide +kernel
theorem dX5_collectMeant_20 : decode cX5_collectMeant 20 = .ok (.invokevirtual 80, 3) := by decide +kernel
theorem dX5_collectMeant_23 : decode cX5_collectMeant 23 = .ok (.istore_n 2, 1) := by decide +kernel
theorem dX5_collectMeant_24 : decode cX5_collectMeant 24 = .ok (.aload_n 0, 1) := by decide +kernel
theorem dX5_collectMeant_25 : decode cX5_collectMeant 25 = .ok (.getfield 19, 3) := by decide +kernel
theorem dX5_collectMeant_28 : decode cX5_collectMeant 28 = .ok (.iload_n 2, 1) := by decide +kernel
theorem dX5_collectMeant_29 : decode cX5_collectMeant 29 = .ok (.iconst 3, 1) := by decide +kernel
theorem dX5_collectMeant_30 : decode cX5_collectMeant 30 = .ok (.invokevirtual 84, 3) := by decide +kernel
theorem dX5_collectMeant_33 : decode cX5_collectMeant 33 = .ok (.ifCond .ne 33, 3) := by decide +kernel
theorem dX5_collectMeant_36 : decode cX5_collectMeant 36 = .ok (.aload_n 0, 1) := by decide +kernel
theorem dX5_collectMeant_37 : decode cX5_collectMeant 37 = .ok (.getfield 27, 3) := by decide +kernel
theorem dX5_collectMeant_40 : decode cX5_collectMeant 40 = .ok (.aload_n 0, 1) := by decide +kernel
theorem dX5_collectMeant_41 : decode cX5_collectMeant 41 = .ok (.getfield 34, 3) := by decide +kernel
theorem dX5_collectMeant_44 : decode cX5_collectMeant 44 = .ok (.iload_n 1, 1) := by decide +kernel
theorem dX5_collectMeant_45 : decode cX5_collectMeant 45 = .ok (.iastore, 1) := by decide +kernel
theorem dX5_collectMeant_46 : decode cX5_collectMeant 46 = .ok (.aload_n 0, 1) := by decide +kernel
theorem dX5_collectMeant_47 : decode cX5_collectMeant 47 = .ok (.getfield 31, 3) := by decide +kernel
theorem dX5_collectMeant_50 : decode cX5_collectMeant 50 = .ok (.aload_n 0, 1) := by decide +kernel
theorem dX5_collectMeant_51 : decode cX5_collectMeant 51 = .ok (.getfield 34, 3) := by decide +kernel
theorem dX5_collectMeant_54 : decode cX5_collectMeant 54 = .ok (.iload_n 2, 1) := by decide +kernel
theorem dX5_collectMeant_55 : decode cX5_collectMeant 55 = .ok (.iastore, 1) := by decide +kernel
theorem dX5_collectMeant_56 : decode cX5_collectMeant 56 = .ok (.aload_n 0, 1) := by decide +kernel
theorem dX5_collectMeant_57 : decode cX5_collectMeant 57 = .ok (.dup, 1) := by decide +kernel
theorem dX5_collectMeant_58 : decode cX5_collectMeant 58 = .ok (.getfield 34, 3) := by decide +kernel
theorem dX5_collectMeant_61 : decode cX5_collectMeant 61 = .ok (.iconst 1, 1) := by decide +kernel
theorem dX5_collectMeant_62 : decode cX5_collectMeant 62 = .ok (.iadd, 1) := by decide +kernel
theorem dX5_collectMeant_63 : decode cX5_collectMeant 63 = .ok (.putfield 34, 3) := by decide +kernel
theorem dX5_collectMeant_66 : decode cX5_collectMeant 66 = .ok (.iinc 1 1, 3) := by decide +kernel
theorem dX5_collectMeant_69 : decode cX5_collectMeant 69 = .ok (.goto (-62), 3) := by decide +kernel
theorem dX5_collectMeant_72 : decode cX5_collectMeant 72 = .ok (.return_, 1) := by decide +kernel
theorem dX5_judge_0 : decode cX5_judge 0 = .ok (.aload_n 0, 1) := by decide +kernel
theorem dX5_judge_1 : decode cX5_judge 1 = .ok (.getfield 34, 3) := by decide +kernel
theorem dX5_judge_4 : decode cX5_judge 4 = .ok (.ifCond .ne 5, 3) := by decide +kernel
theorem dX5_judge_7 : decode cX5_judge 7 = .ok (.iconst 1, 1) := by decide +kernel
theorem dX5_judge_8 : decode cX5_judge 8 = .ok (.ireturn, 1) := by decide +kernel
theorem dX5_judge_9 : decode cX5_judge 9 = .ok (.aload_n 0, 1) := by decide +kernel
theorem dX5_judge_10 : decode cX5_judge 10 = .ok (.invokevirtual 90, 3) := by decide +kernel
theorem dX5_judge_13 : decode cX5_judge 13 = .ok (.istore_n 1, 1) := by decide +kernel
theorem dX5_judge_14 : decode cX5_judge 14 = .ok (.iload_n 1, 1) := by decide +kernel
theorem dX5_judge_15 : decode cX5_judge 15 = .ok (.ifCond .le 27, 3) := by decide +kernel
theorem dX5_judge_18 : decode cX5_judge 18 = .ok (.aload_n 0, 1) := by decide +kernel
theorem dX5_judge_19 : decode cX5_judge 19 = .ok (.aload_n 0, 1) := by decide +kernel
theorem dX5_judge_20 : decode cX5_judge 20 = .ok (.getfield 27, 3) := by decide +kernel
theorem dX5_judge_23 : decode cX5_judge 23 = .ok (.aload_n 0, 1) := by decide +kernel
theorem dX5_judge_24 : decode cX5_judge 24 = .ok (.getfield 44, 3) := by decide +kernel
theorem dX5_judge_27 : decode cX5_judge 27 = .ok (.iaload, 1) := by decide +kernel
theorem dX5_judge_28 : decode cX5_judge 28 = .ok (.putfield 41, 3) := by decide +kernel
theorem dX5_judge_31 : decode cX5_judge 31 = .ok (.iload_n 1, 1) := by decide +kernel
theorem dX5_judge_32 : decode cX5_judge 32 = .ok (.iconst 1, 1) := by decide +kernel
theorem dX5_judge_33 : decode cX5_judge 33 = .ok (.if_icmp .le 7, 3) := by decide +kernel
theorem dX5_judge_36 : decode cX5_judge 36 = .ok (.iconst 2, 1) := by decide +kernel
theorem dX5_judge_37 : decode cX5_judge 37 = .ok (.goto 4, 3) := by decide +kernel
theorem dX5_judge_40 : decode cX5_judge 40 = .ok (.iconst 3, 1) := by decide +kernel
theorem dX5_judge_41 : decode cX5_judge 41 = .ok (.ireturn, 1) := by decide +kernel
theorem dX5_judge_42 : decode cX5_judge 42 = .ok (.aload_n 0, 1) := by decide +kernel
theorem dX5_judge_43 : decode cX5_judge 43 = .ok (.getfield 19, 3) := by decide +kernel
theorem dX5_judge_46 : decode cX5_judge 46 = .ok (.aload_n 0, 1) := by decide +kernel
theorem dX5_judge_47 : decode cX5_judge 47 = .ok (.getfield 31, 3) := by decide +kernel
theorem dX5_judge_50 : decode cX5_judge 50 = .ok (.iconst 0, 1) := by decide +kernel
theorem dX5_judge_51 : decode cX5_judge 51 = .ok (.iaload, 1) := by decide +kernel
theorem dX5_judge_52 : decode cX5_judge 52 = .ok (.iconst 0, 1) := by decide +kernel
theorem dX5_judge_53 : decode cX5_judge 53 = .ok (.invokevirtual 84, 3) := by decide +kernel
theorem dX5_judge_56 : decode cX5_judge 56 = .ok (.ifCond .ne 15, 3) := by decide +kernel
theorem dX5_judge_59 : decode cX5_judge 59 = .ok (.aload_n 0, 1) := by decide +kernel
theorem dX5_judge_60 : decode cX5_judge 60 = .ok (.aload_n 0, 1) := by decide +kernel
theorem dX5_judge_61 : decode cX5_judge 61 = .ok (.getfield 27, 3) := by decide +kernel
theorem dX5_judge_64 : decode cX5_judge 64 = .ok (.iconst 0, 1) := by decide +kernel
theorem dX5_judge_65 : decode cX5_judge 65 = .ok (.iaload, 1) := by decide +kernel
theorem dX5_judge_66 : decode cX5_judge 66 = .ok (.putfield 41, 3) := by decide +kernel
theorem dX5_judge_69 : decode cX5_judge 69 = .ok (.iconst 4, 1) := by decide +kernel
theorem dX5_judge_70 : decode cX5_judge 70 = .ok (.ireturn, 1) := by decide +kernel
theorem dX5_judge_71 : decode cX5_judge 71 = .ok (.aload_n 0, 1) := by decide +kernel
theorem dX5_judge_72 : decode cX5_judge 72 = .ok (.invokevirtual 93, 3) := by decide +kernel
theorem dX5_judge_75 : decode cX5_judge 75 = .ok (.istore_n 2, 1) := by decide +kernel
theorem dX5_judge_76 : decode cX5_judge 76 = .ok (.iload_n 2, 1) := by decide +kernel
theorem dX5_judge_77 : decode cX5_judge 77 = .ok (.iconst (-1), 1) := by decide +kernel
theorem dX5_judge_78 : decode cX5_judge 78 = .ok (.if_icmp .eq 15, 3) := by decide +kernel
theorem dX5_judge_81 : decode cX5_judge 81 = .ok (.aload_n 0, 1) := by decide +kernel
theorem dX5_judge_82 : decode cX5_judge 82 = .ok (.aload_n 0, 1) := by decide +kernel
theorem dX5_judge_83 : decode cX5_judge 83 = .ok (.getfield 27, 3) := by decide +kernel
theorem dX5_judge_86 : decode cX5_judge 86 = .ok (.iload_n 2, 1) := by decide +kernel
theorem dX5_judge_87 : decode cX5_judge 87 = .ok (.iaload, 1) := by decide +kernel
theorem dX5_judge_88 : decode cX5_judge 88 = .ok (.putfield 41, 3) := by decide +kernel
theorem dX5_judge_91 : decode cX5_judge 91 = .ok (.iconst 5, 1) := by decide +kernel
theorem dX5_judge_92 : decode cX5_judge 92 = .ok (.ireturn, 1) := by decide +kernel
theorem dX5_judge_93 : decode cX5_judge 93 = .ok (.aload_n 0, 1) := by decide +kernel
theorem dX5_judge_94 : decode cX5_judge 94 = .ok (.aload_n 0, 1) := by decide +kernel
theorem dX5_judge_95 : decode cX5_judge 95 = .ok (.invokevirtual 96, 3) := by decide +kernel
theorem dX5_judge_98 : decode cX5_judge 98 = .ok (.putfield 47, 3) := by decide +kernel
theorem dX5_judge_101 : decode cX5_judge 101 = .ok (.aload_n 0, 1) := by decide +kernel
theorem dX5_judge_102 : decode cX5_judge 102 = .ok (.getfield 47, 3) := by decide +kernel
theorem dX5_judge_105 : decode cX5_judge 105 = .ok (.iconst (-1), 1) := by decide +kernel
theorem dX5_judge_106 : decode cX5_judge 106 = .ok (.if_icmp .ne 8, 3) := by decide +kernel
theorem dX5_judge_109 : decode cX5_judge 109 = .ok (.bipush 6, 2) := by decide +kernel
theorem dX5_judge_111 : decode cX5_judge 111 = .ok (.goto 4, 3) := by decide +kernel
theorem dX5_judge_114 : decode cX5_judge 114 = .ok (.iconst 0, 1) := by decide +kernel
theorem dX5_judge_115 : decode cX5_judge 115 = .ok (.ireturn, 1) := by decide +kernel
theorem dX5_findUnknown_0 : decode cX5_findUnknown 0 = .ok (.iconst 0, 1) := by decide +kernel
theorem dX5_findUnknown_1 : decode cX5_findUnknown 1 = .ok (.istore_n 1, 1) := by decide +kernel
theorem dX5_findUnknown_2 : decode cX5_findUnknown 2 = .ok (.aload_n 0, 1) := by decide +kernel
theorem dX5_findUnknown_3 : decode cX5_findUnknown 3 = .ok (.getfield 34, 3) := by decide +kernel
theorem dX5_findUnknown_6 : decode cX5_findUnknown 6 = .ok (.iconst 1, 1) := by decide +kernel
theorem dX5_findUnknown_7 : decode cX5_findUnknown 7 = .ok (.isub, 1) := by decide +kernel
theorem dX5_findUnknown_8 : decode cX5_findUnknown 8 = .ok (.istore_n 2, 1) := by decide +kernel
theorem dX5_findUnknown_9 : decode cX5_findUnknown 9 = .ok (.iload_n 2, 1) := by decide +kernel
theorem dX5_findUnknown_10 : decode cX5_findUnknown 10 = .ok (.ifCond .lt 27, 3) := by decide +kernel
theorem dX5_findUnknown_13 : decode cX5_findUnknown 13 = .ok (.aload_n 0, 1) := by decide +kernel
theorem dX5_findUnknown_14 : decode cX5_findUnknown 14 = .ok (.getfield 31, 3) := by decide +kernel
theorem dX5_findUnknown_17 : decode cX5_findUnknown 17 = .ok (.iload_n 2, 1) := by decide +kernel
theorem dX5_findUnknown_18 : decode cX5_findUnknown 18 = .ok (.iaload, 1) := by decide +kernel
theorem dX5_findUnknown_19 : decode cX5_findUnknown 19 = .ok (.iconst (-1), 1) := by decide +kernel
theorem dX5_findUnknown_20 : decode cX5_findUnknown 20 = .ok (.if_icmp .ne 11, 3) := by decide +kernel
theorem dX5_findUnknown_23 : decode cX5_findUnknown 23 = .ok (.aload_n 0, 1) := by decide +kernel
theorem dX5_findUnknown_24 : decode cX5_findUnknown 24 = .ok (.iload_n 2, 1) := by decide +kernel
theorem dX5_findUnknown_25 : decode cX5_findUnknown 25 = .ok (.putfield 44, 3) := by decide +kernel
theorem dX5_findUnknown_28 : decode cX5_findUnknown 28 = .ok (.iinc 1 1, 3) := by decide +kernel
theorem dX5_findUnknown_31 : decode cX5_findUnknown 31 = .ok (.iinc 2 (-1), 3) := by decide +kernel
theorem dX5_findUnknown_34 : decode cX5_findUnknown 34 = .ok (.goto (-25), 3) := by decide +kernel
theorem dX5_findUnknown_37 : decode cX5_findUnknown 37 = .ok (.iload_n 1, 1) := by decide +kernel
theorem dX5_findUnknown_38 : decode cX5_findUnknown 38 = .ok (.ireturn, 1) := by decide +kernel
theorem dX5_findHidden_0 : decode cX5_findHidden 0 = .ok (.iconst 0, 1) := by decide +kernel
theorem dX5_findHidden_1 : decode cX5_findHidden 1 = .ok (.istore_n 1, 1) := by decide +kernel
theorem dX5_findHidden_2 : decode cX5_findHidden 2 = .ok (.iload_n 1, 1) := by decide +kernel
theorem dX5_findHidden_3 : decode cX5_findHidden 3 = .ok (.aload_n 0, 1) := by decide +kernel
theorem dX5_findHidden_4 : decode cX5_findHidden 4 = .ok (.getfield 34, 3) := by decide +kernel
theorem dX5_findHidden_7 : decode cX5_findHidden 7 = .ok (.if_icmp .ge 28, 3) := by decide +kernel
theorem dX5_findHidden_10 : decode cX5_findHidden 10 = .ok (.aload_n 0, 1) := by decide +kernel
theorem dX5_findHidden_11 : decode cX5_findHidden 11 = .ok (.getfield 19, 3) := by decide +kernel
theorem dX5_findHidden_14 : decode cX5_findHidden 14 = .ok (.getfield 99, 3) := by decide +kernel
theorem dX5_findHidden_17 : decode cX5_findHidden 17 = .ok (.aload_n 0, 1) := by decide +kernel
theorem dX5_findHidden_18 : decode cX5_findHidden 18 = .ok (.getfield 31, 3) := by decide +kernel
theorem dX5_findHidden_21 : decode cX5_findHidden 21 = .ok (.iload_n 1, 1) := by decide +kernel
theorem dX5_findHidden_22 : decode cX5_findHidden 22 = .ok (.iaload, 1) := by decide +kernel
theorem dX5_findHidden_23 : decode cX5_findHidden 23 = .ok (.baload, 1) := by decide +kernel
theorem dX5_findHidden_24 : decode cX5_findHidden 24 = .ok (.ifCond .ne 5, 3) := by decide +kernel
theorem dX5_findHidden_27 : decode cX5_findHidden 27 = .ok (.iload_n 1, 1) := by decide +kernel
theorem dX5_findHidden_28 : decode cX5_findHidden 28 = .ok (.ireturn, 1) := by decide +kernel
theorem dX5_findHidden_29 : decode cX5_findHidden 29 = .ok (.iinc 1 1, 3) := by decide +kernel
theorem dX5_findHidden_32 : decode cX5_findHidden 32 = .ok (.goto (-30), 3) := by decide +kernel
theorem dX5_findHidden_35 : decode cX5_findHidden 35 = .ok (.iconst (-1), 1) := by decide +kernel
theorem dX5_findHidden_36 : decode cX5_findHidden 36 = .ok (.ireturn, 1) := by decide +kernel
theorem dX5_findFitting_0 : decode cX5_findFitting 0 = .ok (.iconst 0, 1) := by decide +kernel
theorem dX5_findFitting_1 : decode cX5_findFitting 1 = .ok (.istore_n 1, 1) := by decide +kernel
theorem dX5_findFitting_2 : decode cX5_findFitting 2 = .ok (.iload_n 1, 1) := by decide +kernel
theorem dX5_findFitting_3 : decode cX5_findFitting 3 = .ok (.aload_n 0, 1) := by decide +kernel
theorem dX5_findFitting_4 : decode cX5_findFitting 4 = .ok (.getfield 23, 3) := by decide +kernel
theorem dX5_findFitting_7 : decode cX5_findFitting 7 = .ok (.getfield 103, 3) := by decide +kernel
theorem dX5_findFitting_10 : decode cX5_findFitting 10 = .ok (.if_icmp .ge 37, 3) := by decide +kernel
theorem dX5_findFitting_13 : decode cX5_findFitting 13 = .ok (.aload_n 0, 1) := by decide +kernel
theorem dX5_findFitting_14 : decode cX5_findFitting 14 = .ok (.getfield 23, 3) := by decide +kernel
theorem dX5_findFitting_17 : decode cX5_findFitting 17 = .ok (.getfield 106, 3) := by decide +kernel
theorem dX5_findFitting_20 : decode cX5_findFitting 20 = .ok (.iload_n 1, 1) := by decide +kernel
theorem dX5_findFitting_21 : decode cX5_findFitting 21 = .ok (.iaload, 1) := by decide +kernel
theorem dX5_findFitting_22 : decode cX5_findFitting 22 = .ok (.aload_n 0, 1) := by decide +kernel
theorem dX5_findFitting_23 : decode cX5_findFitting 23 = .ok (.getfield 34, 3) := by decide +kernel
theorem dX5_findFitting_26 : decode cX5_findFitting 26 = .ok (.iconst 1, 1) := by decide +kernel
theorem dX5_findFitting_27 : decode cX5_findFitting 27 = .ok (.isub, 1) := by decide +kernel
theorem dX5_findFitting_28 : decode cX5_findFitting 28 = .ok (.if_icmp .ne 13, 3) := by decide +kernel
theorem dX5_findFitting_31 : decode cX5_findFitting 31 = .ok (.aload_n 0, 1) := by decide +kernel
theorem dX5_findFitting_32 : decode cX5_findFitting 32 = .ok (.iload_n 1, 1) := by decide +kernel
theorem dX5_findFitting_33 : decode cX5_findFitting 33 = .ok (.invokevirtual 107, 3) := by decide +kernel
theorem dX5_findFitting_36 : decode cX5_findFitting 36 = .ok (.ifCond .eq 5, 3) := by decide +kernel
theorem dX5_findFitting_39 : decode cX5_findFitting 39 = .ok (.iload_n 1, 1) := by decide +kernel
theorem dX5_findFitting_40 : decode cX5_findFitting 40 = .ok (.ireturn, 1) := by decide +kernel
theorem dX5_findFitting_41 : decode cX5_findFitting 41 = .ok (.iinc 1 1, 3) := by decide +kernel
theorem dX5_findFitting_44 : decode cX5_findFitting 44 = .ok (.goto (-42), 3) := by decide +kernel
theorem dX5_findFitting_47 : decode cX5_findFitting 47 = .ok (.iconst (-1), 1) := by decide +kernel
theorem dX5_findFitting_48 : decode cX5_findFitting 48 = .ok (.ireturn, 1) := by decide +kernel
theorem dX5_beginsAs_0 : decode cX5_beginsAs 0 = .ok (.aload_n 0, 1) := by decide +kernel
theorem dX5_beginsAs_1 : decode cX5_beginsAs 1 = .ok (.getfield 23, 3) := by decide +kernel
theorem dX5_beginsAs_4 : decode cX5_beginsAs 4 = .ok (.getfield 111, 3) := by decide +kernel
theorem dX5_beginsAs_7 : decode cX5_beginsAs 7 = .ok (.iload_n 1, 1) := by decide +kernel
theorem dX5_beginsAs_8 : decode cX5_beginsAs 8 = .ok (.iaload, 1) := by decide +kernel
theorem dX5_beginsAs_9 : decode cX5_beginsAs 9 = .ok (.aload_n 0, 1) := by decide +kernel
theorem dX5_beginsAs_10 : decode cX5_beginsAs 10 = .ok (.getfield 31, 3) := by decide +kernel
theorem dX5_beginsAs_13 : decode cX5_beginsAs 13 = .ok (.iconst 0, 1) := by decide +kernel
theorem dX5_beginsAs_14 : decode cX5_beginsAs 14 = .ok (.iaload, 1) := by decide +kernel
theorem dX5_beginsAs_15 : decode cX5_beginsAs 15 = .ok (.if_icmp .ne 21, 3) := by decide +kernel
theorem dX5_beginsAs_18 : decode cX5_beginsAs 18 = .ok (.aload_n 0, 1) := by decide +kernel
theorem dX5_beginsAs_19 : decode cX5_beginsAs 19 = .ok (.getfield 23, 3) := by decide +kernel
theorem dX5_beginsAs_22 : decode cX5_beginsAs 22 = .ok (.getfield 106, 3) := by decide +kernel
theorem dX5_beginsAs_25 : decode cX5_beginsAs 25 = .ok (.iload_n 1, 1) := by decide +kernel
theorem dX5_beginsAs_26 : decode cX5_beginsAs 26 = .ok (.iaload, 1) := by decide +kernel
theorem dX5_beginsAs_27 : decode cX5_beginsAs 27 = .ok (.aload_n 0, 1) := by decide +kernel
theorem dX5_beginsAs_28 : decode cX5_beginsAs 28 = .ok (.getfield 34, 3) := by decide +kernel
theorem dX5_beginsAs_31 : decode cX5_beginsAs 31 = .ok (.iconst 1, 1) := by decide +kernel
theorem dX5_beginsAs_32 : decode cX5_beginsAs 32 = .ok (.isub, 1) := by decide +kernel
theorem dX5_beginsAs_33 : decode cX5_beginsAs 33 = .ok (.if_icmp .ge 5, 3) := by decide +kernel
theorem dX5_beginsAs_36 : decode cX5_beginsAs 36 = .ok (.iconst 0, 1) := by decide +kernel
theorem dX5_beginsAs_37 : decode cX5_beginsAs 37 = .ok (.ireturn, 1) := by decide +kernel
theorem dX5_beginsAs_38 : decode cX5_beginsAs 38 = .ok (.iconst 0, 1) := by decide +kernel
theorem dX5_beginsAs_39 : decode cX5_beginsAs 39 = .ok (.istore_n 2, 1) := by decide +kernel
theorem dX5_beginsAs_40 : decode cX5_beginsAs 40 = .ok (.iload_n 2, 1) := by decide +kernel
theorem dX5_beginsAs_41 : decode cX5_beginsAs 41 = .ok (.aload_n 0, 1) := by decide +kernel
theorem dX5_beginsAs_42 : decode cX5_beginsAs 42 = .ok (.getfield 34, 3) := by decide +kernel
theorem dX5_beginsAs_45 : decode cX5_beginsAs 45 = .ok (.iconst 1, 1) := by decide +kernel
theorem dX5_beginsAs_46 : decode cX5_beginsAs 46 = .ok (.isub, 1) := by decide +kernel
theorem dX5_beginsAs_47 : decode cX5_beginsAs 47 = .ok (.if_icmp .ge 38, 3) := by decide +kernel
theorem dX5_beginsAs_50 : decode cX5_beginsAs 50 = .ok (.aload_n 0, 1) := by decide +kernel
theorem dX5_beginsAs_51 : decode cX5_beginsAs 51 = .ok (.getfield 19, 3) := by decide +kernel
theorem dX5_beginsAs_54 : decode cX5_beginsAs 54 = .ok (.aload_n 0, 1) := by decide +kernel
theorem dX5_beginsAs_55 : decode cX5_beginsAs 55 = .ok (.getfield 31, 3) := by decide +kernel
theorem dX5_beginsAs_58 : decode cX5_beginsAs 58 = .ok (.iload_n 2, 1) := by decide +kernel
theorem dX5_beginsAs_59 : decode cX5_beginsAs 59 = .ok (.iconst 1, 1) := by decide +kernel
theorem dX5_beginsAs_60 : decode cX5_beginsAs 60 = .ok (.iadd, 1) := by decide +kernel
theorem dX5_beginsAs_61 : decode cX5_beginsAs 61 = .ok (.iaload, 1) := by decide +kernel
theorem dX5_beginsAs_62 : decode cX5_beginsAs 62 = .ok (.aload_n 0, 1) := by decide +kernel
theorem dX5_beginsAs_63 : decode cX5_beginsAs 63 = .ok (.getfield 23, 3) := by decide +kernel
theorem dX5_beginsAs_66 : decode cX5_beginsAs 66 = .ok (.iload_n 1, 1) := by decide +kernel
theorem dX5_beginsAs_67 : decode cX5_beginsAs 67 = .ok (.iload_n 2, 1) := by decide +kernel
theorem dX5_beginsAs_68 : decode cX5_beginsAs 68 = .ok (.invokevirtual 114, 3) := by decide +kernel
theorem dX5_beginsAs_71 : decode cX5_beginsAs 71 = .ok (.invokevirtual 118, 3) := by decide +kernel
theorem dX5_beginsAs_74 : decode cX5_beginsAs 74 = .ok (.ifCond .ne 5, 3) := by decide +kernel
theorem dX5_beginsAs_77 : decode cX5_beginsAs 77 = .ok (.iconst 0, 1) := by decide +kernel
theorem dX5_beginsAs_78 : decode cX5_beginsAs 78 = .ok (.ireturn, 1) := by decide +kernel
theorem dX5_beginsAs_79 : decode cX5_beginsAs 79 = .ok (.iinc 2 1, 3) := by decide +kernel
theorem dX5_beginsAs_82 : decode cX5_beginsAs 82 = .ok (.goto (-42), 3) := by decide +kernel
theorem dX5_beginsAs_85 : decode cX5_beginsAs 85 = .ok (.iconst 1, 1) := by decide +kernel
theorem dX5_beginsAs_86 : decode cX5_beginsAs 86 = .ok (.ireturn, 1) := by decide +kernel
theorem dX5_wouldFit_0 : decode cX5_wouldFit 0 = .ok (.aload_n 0, 1) := by decide +kernel
theorem dX5_wouldFit_1 : decode cX5_wouldFit 1 = .ok (.getfield 31, 3) := by decide +kernel
theorem dX5_wouldFit_4 : decode cX5_wouldFit 4 = .ok (.aload_n 0, 1) := by decide +kernel
theorem dX5_wouldFit_5 : decode cX5_wouldFit 5 = .ok (.getfield 44, 3) := by decide +kernel
theorem dX5_wouldFit_8 : decode cX5_wouldFit 8 = .ok (.iload_n 1, 1) := by decide +kernel
theorem dX5_wouldFit_9 : decode cX5_wouldFit 9 = .ok (.iastore, 1) := by decide +kernel
theorem dX5_wouldFit_10 : decode cX5_wouldFit 10 = .ok (.aload_n 0, 1) := by decide +kernel
theorem dX5_wouldFit_11 : decode cX5_wouldFit 11 = .ok (.invokevirtual 93, 3) := by decide +kernel
theorem dX5_wouldFit_14 : decode cX5_wouldFit 14 = .ok (.iconst (-1), 1) := by decide +kernel
theorem dX5_wouldFit_15 : decode cX5_wouldFit 15 = .ok (.if_icmp .ne 15, 3) := by decide +kernel
theorem dX5_wouldFit_18 : decode cX5_wouldFit 18 = .ok (.aload_n 0, 1) := by decide +kernel
theorem dX5_wouldFit_19 : decode cX5_wouldFit 19 = .ok (.invokevirtual 96, 3) := by decide +kernel
theorem dX5_wouldFit_22 : decode cX5_wouldFit 22 = .ok (.iconst (-1), 1) := by decide +kernel
theorem dX5_wouldFit_23 : decode cX5_wouldFit 23 = .ok (.if_icmp .eq 7, 3) := by decide +kernel
theorem dX5_wouldFit_26 : decode cX5_wouldFit 26 = .ok (.iconst 1, 1) := by decide +kernel
theorem dX5_wouldFit_27 : decode cX5_wouldFit 27 = .ok (.goto 4, 3) := by decide +kernel
theorem dX5_wouldFit_30 : decode cX5_wouldFit 30 = .ok (.iconst 0, 1) := by decide +kernel
theorem dX5_wouldFit_31 : decode cX5_wouldFit 31 = .ok (.istore_n 2, 1) := by decide +kernel
theorem dX5_wouldFit_32 : decode cX5_wouldFit 32 = .ok (.aload_n 0, 1) := by decide +kernel
theorem dX5_wouldFit_33 : decode cX5_wouldFit 33 = .ok (.getfield 31, 3) := by decide +kernel
theorem dX5_wouldFit_36 : decode cX5_wouldFit 36 = .ok (.aload_n 0, 1) := by decide +kernel
theorem dX5_wouldFit_37 : decode cX5_wouldFit 37 = .ok (.getfield 44, 3) := by decide +kernel
theorem dX5_wouldFit_40 : decode cX5_wouldFit 40 = .ok (.iconst (-1), 1) := by decide +kernel
theorem dX5_wouldFit_41 : decode cX5_wouldFit 41 = .ok (.iastore, 1) := by decide +kernel
theorem dX5_wouldFit_42 : decode cX5_wouldFit 42 = .ok (.iload_n 2, 1) := by decide +kernel
theorem dX5_wouldFit_43 : decode cX5_wouldFit 43 = .ok (.ireturn, 1) := by decide +kernel
theorem dX5_verbWith_0 : decode cX5_verbWith 0 = .ok (.aload_n 0, 1) := by decide +kernel
theorem dX5_verbWith_1 : decode cX5_verbWith 1 = .ok (.getfield 44, 3) := by decide +kernel
theorem dX5_verbWith_4 : decode cX5_verbWith 4 = .ok (.ifCond .ne 7, 3) := by decide +kernel
theorem dX5_verbWith_7 : decode cX5_verbWith 7 = .ok (.iload_n 1, 1) := by decide +kernel
theorem dX5_verbWith_8 : decode cX5_verbWith 8 = .ok (.goto 9, 3) := by decide +kernel
theorem dX5_verbWith_11 : decode cX5_verbWith 11 = .ok (.aload_n 0, 1) := by decide +kernel
theorem dX5_verbWith_12 : decode cX5_verbWith 12 = .ok (.getfield 31, 3) := by decide +kernel
theorem dX5_verbWith_15 : decode cX5_verbWith 15 = .ok (.iconst 0, 1) := by decide +kernel
theorem dX5_verbWith_16 : decode cX5_verbWith 16 = .ok (.iaload, 1) := by decide +kernel
theorem dX5_verbWith_17 : decode cX5_verbWith 17 = .ok (.ireturn, 1) := by decide +kernel
theorem dX5_couldComeNext_0 : decode cX5_couldComeNext 0 = .ok (.aload_n 0, 1) := by decide +kernel
theorem dX5_couldComeNext_1 : decode cX5_couldComeNext 1 = .ok (.getfield 19, 3) := by decide +kernel
theorem dX5_couldComeNext_4 : decode cX5_couldComeNext 4 = .ok (.iload_n 1, 1) := by decide +kernel
theorem dX5_couldComeNext_5 : decode cX5_couldComeNext 5 = .ok (.invokevirtual 121, 3) := by decide +kernel
theorem dX5_couldComeNext_8 : decode cX5_couldComeNext 8 = .ok (.ifCond .ne 5, 3) := by decide +kernel
theorem dX5_couldComeNext_11 : decode cX5_couldComeNext 11 = .ok (.iconst 0, 1) := by decide +kernel
theorem dX5_couldComeNext_12 : decode cX5_couldComeNext 12 = .ok (.ireturn, 1) := by decide +kernel
theorem dX5_couldComeNext_13 : decode cX5_couldComeNext 13 = .ok (.aload_n 0, 1) := by decide +kernel
theorem dX5_couldComeNext_14 : decode cX5_couldComeNext 14 = .ok (.getfield 38, 3) := by decide +kernel
theorem dX5_couldComeNext_17 : decode cX5_couldComeNext 17 = .ok (.iconst 1, 1) := by decide +kernel
theorem dX5_couldComeNext_18 : decode cX5_couldComeNext 18 = .ok (.if_icmp .ne 32, 3) := by decide +kernel
theorem dX5_couldComeNext_21 : decode cX5_couldComeNext 21 = .ok (.aload_n 0, 1) := by decide +kernel
theorem dX5_couldComeNext_22 : decode cX5_couldComeNext 22 = .ok (.getfield 19, 3) := by decide +kernel
theorem dX5_couldComeNext_25 : decode cX5_couldComeNext 25 = .ok (.getfield 124, 3) := by decide +kernel
theorem dX5_couldComeNext_28 : decode cX5_couldComeNext 28 = .ok (.iload_n 1, 1) := by decide +kernel
theorem dX5_couldComeNext_29 : decode cX5_couldComeNext 29 = .ok (.iaload, 1) := by decide +kernel
theorem dX5_couldComeNext_30 : decode cX5_couldComeNext 30 = .ok (.ifCond .ne 18, 3) := by decide +kernel
theorem dX5_couldComeNext_33 : decode cX5_couldComeNext 33 = .ok (.aload_n 0, 1) := by decide +kernel
theorem dX5_couldComeNext_34 : decode cX5_couldComeNext 34 = .ok (.getfield 23, 3) := by decide +kernel
theorem dX5_couldComeNext_37 : decode cX5_couldComeNext 37 = .ok (.iload_n 1, 1) := by decide +kernel
theorem dX5_couldComeNext_38 : decode cX5_couldComeNext 38 = .ok (.invokevirtual 127, 3) := by decide +kernel
theorem dX5_couldComeNext_41 : decode cX5_couldComeNext 41 = .ok (.ifCond .eq 7, 3) := by decide +kernel
theorem dX5_couldComeNext_44 : decode cX5_couldComeNext 44 = .ok (.iconst 1, 1) := by decide +kernel
theorem dX5_couldComeNext_45 : decode cX5_couldComeNext 45 = .ok (.goto 4, 3) := by decide +kernel
theorem dX5_couldComeNext_48 : decode cX5_couldComeNext 48 = .ok (.iconst 0, 1) := by decide +kernel
theorem dX5_couldComeNext_49 : decode cX5_couldComeNext 49 = .ok (.ireturn, 1) := by decide +kernel
theorem dX5_couldComeNext_50 : decode cX5_couldComeNext 50 = .ok (.aload_n 0, 1) := by decide +kernel
theorem dX5_couldComeNext_51 : decode cX5_couldComeNext 51 = .ok (.getfield 38, 3) := by decide +kernel
theorem dX5_couldComeNext_54 : decode cX5_couldComeNext 54 = .ok (.ifCond .eq 14, 3) := by decide +kernel
theorem dX5_couldComeNext_57 : decode cX5_couldComeNext 57 = .ok (.aload_n 0, 1) := by decide +kernel
theorem dX5_couldComeNext_58 : decode cX5_couldComeNext 58 = .ok (.getfield 38, 3) := by decide +kernel
theorem dX5_couldComeNext_61 : decode cX5_couldComeNext 61 = .ok (.bipush 6, 2) := by decide +kernel
theorem dX5_couldComeNext_63 : decode cX5_couldComeNext 63 = .ok (.if_icmp .eq 5, 3) := by decide +kernel
theorem dX5_couldComeNext_66 : decode cX5_couldComeNext 66 = .ok (.iconst 0, 1) := by decide +kernel
theorem dX5_couldComeNext_67 : decode cX5_couldComeNext 67 = .ok (.ireturn, 1) := by decide +kernel
theorem dX5_couldComeNext_68 : decode cX5_couldComeNext 68 = .ok (.iconst 0, 1) := by decide +kernel
theorem dX5_couldComeNext_69 : decode cX5_couldComeNext 69 = .ok (.istore_n 2, 1) := by decide +kernel
theorem dX5_couldComeNext_70 : decode cX5_couldComeNext 70 = .ok (.iload_n 2, 1) := by decide +kernel
theorem dX5_couldComeNext_71 : decode cX5_couldComeNext 71 = .ok (.aload_n 0, 1) := by decide +kernel
theorem dX5_couldComeNext_72 : decode cX5_couldComeNext 72 = .ok (.getfield 23, 3) := by decide +kernel
theorem dX5_couldComeNext_75 : decode cX5_couldComeNext 75 = .ok (.getfield 103, 3) := by decide +kernel
theorem dX5_couldComeNext_78 : decode cX5_couldComeNext 78 = .ok (.if_icmp .ge 60, 3) := by decide +kernel
theorem dX5_couldComeNext_81 : decode cX5_couldComeNext 81 = .ok (.aload_n 0, 1) := by decide +kernel
theorem dX5_couldComeNext_82 : decode cX5_couldComeNext 82 = .ok (.getfield 23, 3) := by decide +kernel
theorem dX5_couldComeNext_85 : decode cX5_couldComeNext 85 = .ok (.getfield 106, 3) := by decide +kernel
theorem dX5_couldComeNext_88 : decode cX5_couldComeNext 88 = .ok (.iload_n 2, 1) := by decide +kernel
theorem dX5_couldComeNext_89 : decode cX5_couldComeNext 89 = .ok (.iaload, 1) := by decide +kernel
theorem dX5_couldComeNext_90 : decode cX5_couldComeNext 90 = .ok (.aload_n 0, 1) := by decide +kernel
theorem dX5_couldComeNext_91 : decode cX5_couldComeNext 91 = .ok (.getfield 34, 3) := by decide +kernel
theorem dX5_couldComeNext_94 : decode cX5_couldComeNext 94 = .ok (.if_icmp .lt 38, 3) := by decide +kernel
theorem dX5_couldComeNext_97 : decode cX5_couldComeNext 97 = .ok (.aload_n 0, 1) := by decide +kernel
theorem dX5_couldComeNext_98 : decode cX5_couldComeNext 98 = .ok (.iload_n 2, 1) := by decide +kernel
theorem dX5_couldComeNext_99 : decode cX5_couldComeNext 99 = .ok (.invokevirtual 107, 3) := by decide +kernel
theorem dX5_couldComeNext_102 : decode cX5_couldComeNext 102 = .ok (.ifCond .eq 30, 3) := by decide +kernel
theorem dX5_couldComeNext_105 : decode cX5_couldComeNext 105 = .ok (.aload_n 0, 1) := by decide +kernel
theorem dX5_couldComeNext_106 : decode cX5_couldComeNext 106 = .ok (.getfield 19, 3) := by decide +kernel
theorem dX5_couldComeNext_109 : decode cX5_couldComeNext 109 = .ok (.iload_n 1, 1) := by decide +kernel
theorem dX5_couldComeNext_110 : decode cX5_couldComeNext 110 = .ok (.aload_n 0, 1) := by decide +kernel
theorem dX5_couldComeNext_111 : decode cX5_couldComeNext 111 = .ok (.getfield 23, 3) := by decide +kernel
theorem dX5_couldComeNext_114 : decode cX5_couldComeNext 114 = .ok (.iload_n 2, 1) := by decide +kernel
theorem dX5_couldComeNext_115 : decode cX5_couldComeNext 115 = .ok (.aload_n 0, 1) := by decide +kernel
theorem dX5_couldComeNext_116 : decode cX5_couldComeNext 116 = .ok (.getfield 34, 3) := by decide +kernel
theorem dX5_couldComeNext_119 : decode cX5_couldComeNext 119 = .ok (.iconst 1, 1) := by decide +kernel
theorem dX5_couldComeNext_120 : decode cX5_couldComeNext 120 = .ok (.isub, 1) := by decide +kernel
theorem dX5_couldComeNext_121 : decode cX5_couldComeNext 121 = .ok (.invokevirtual 114, 3) := by decide +kernel
theorem dX5_couldComeNext_124 : decode cX5_couldComeNext 124 = .ok (.invokevirtual 118, 3) := by decide +kernel
theorem dX5_couldComeNext_127 : decode cX5_couldComeNext 127 = .ok (.ifCond .eq 5, 3) := by decide +kernel
theorem dX5_couldComeNext_130 : decode cX5_couldComeNext 130 = .ok (.iconst 1, 1) := by decide +kernel
theorem dX5_couldComeNext_131 : decode cX5_couldComeNext 131 = .ok (.ireturn, 1) := by decide +kernel
theorem dX5_couldComeNext_132 : decode cX5_couldComeNext 132 = .ok (.iinc 2 1, 3) := by decide +kernel
theorem dX5_couldComeNext_135 : decode cX5_couldComeNext 135 = .ok (.goto (-65), 3) := by decide +kernel
theorem dX5_couldComeNext_138 : decode cX5_couldComeNext 138 = .ok (.iconst 0, 1) := by decide +kernel
theorem dX5_couldComeNext_139 : decode cX5_couldComeNext 139 = .ok (.ireturn, 1) := by decide +kernel
theorem dX6_init_0 : decode cX6_init 0 = .ok (.aload_n 0, 1) := by decide +kernel
theorem dX6_init_1 : decode cX6_init 1 = .ok (.invokespecial 3, 3) := by decide +kernel
theorem dX6_init_4 : decode cX6_init 4 = .ok (.aload_n 0, 1) := by decide +kernel
theorem dX6_init_5 : decode cX6_init 5 = .ok (.bipush 40, 2) := by decide +kernel
theorem dX6_init_7 : decode cX6_init 7 = .ok (.newarray .int, 2) := by decide +kernel
theorem dX6_init_9 : decode cX6_init 9 = .ok (.putfield 9, 3) := by decide +kernel
theorem dX6_init_12 : decode cX6_init 12 = .ok (.aload_n 0, 1) := by decide +kernel
theorem dX6_init_13 : decode cX6_init 13 = .ok (.bipush 40, 2) := by decide +kernel
theorem dX6_init_15 : decode cX6_init 15 = .ok (.newarray .int, 2) := by decide +kernel
theorem dX6_init_17 : decode cX6_init 17 = .ok (.putfield 15, 3) := by decide +kernel
theorem dX6_init_20 : decode cX6_init 20 = .ok (.aload_n 0, 1) := by decide +kernel
theorem dX6_init_21 : decode cX6_init 21 = .ok (.sipush 160, 3) := by decide +kernel
theorem dX6_init_24 : decode cX6_init 24 = .ok (.newarray .int, 2) := by decide +kernel
theorem dX6_init_26 : decode cX6_init 26 = .ok (.putfield 18, 3) := by decide +kernel
theorem dX6_init_29 : decode cX6_init 29 = .ok (.aload_n 0, 1) := by decide +kernel
theorem dX6_init_30 : decode cX6_init 30 = .ok (.iconst 0, 1) := by decide +kernel
theorem dX6_init_31 : decode cX6_init 31 = .ok (.putfield 21, 3) := by decide +kernel
theorem dX6_init_34 : decode cX6_init 34 = .ok (.return_, 1) := by decide +kernel
theorem dX6_add_0 : decode cX6_add 0 = .ok (.aload_n 0, 1) := by decide +kernel
theorem dX6_add_1 : decode cX6_add 1 = .ok (.getfield 21, 3) := by decide +kernel
theorem dX6_add_4 : decode cX6_add 4 = .ok (.istore_n 2, 1) := by decide +kernel
theorem dX6_add_5 : decode cX6_add 5 = .ok (.aload_n 0, 1) := by decide +kernel
theorem dX6_add_6 : decode cX6_add 6 = .ok (.getfield 9, 3) := by decide +kernel
theorem dX6_add_9 : decode cX6_add 9 = .ok (.iload_n 2, 1) := by decide +kernel
theorem dX6_add_10 : decode cX6_add 10 = .ok (.iload_n 1, 1) := by decide +kernel
theorem dX6_add_11 : decode cX6_add 11 = .ok (.iastore, 1) := by decide +kernel
theorem dX6_add_12 : decode cX6_add 12 = .ok (.aload_n 0, 1) := by decide +kernel
theorem dX6_add_13 : decode cX6_add 13 = .ok (.dup, 1) := by decide +kernel
theorem dX6_add_14 : decode cX6_add 14 = .ok (.getfield 21, 3) := by decide +kernel
theorem dX6_add_17 : decode cX6_add 17 = .ok (.iconst 1, 1) := by decide +kernel
theorem dX6_add_18 : decode cX6_add 18 = .ok (.iadd, 1) := by decide +kernel
theorem dX6_add_19 : decode cX6_add 19 = .ok (.putfield 21, 3) := by decide +kernel
theorem dX6_add_22 : decode cX6_add 22 = .ok (.iload_n 2, 1) := by decide +kernel
theorem dX6_add_23 : decode cX6_add 23 = .ok (.ireturn, 1) := by decide +kernel
theorem dX6_addToken_0 : decode cX6_addToken 0 = .ok (.aload_n 0, 1) := by decide +kernel
theorem dX6_addToken_1 : decode cX6_addToken 1 = .ok (.getfield 18, 3) := by decide +kernel
theorem dX6_addToken_4 : decode cX6_addToken 4 = .ok (.iload_n 1, 1) := by decide +kernel
theorem dX6_addToken_5 : decode cX6_addToken 5 = .ok (.iconst 4, 1) := by decide +kernel
theorem dX6_addToken_6 : decode cX6_addToken 6 = .ok (.imul, 1) := by decide +kernel
theorem dX6_addToken_7 : decode cX6_addToken 7 = .ok (.aload_n 0, 1) := by decide +kernel
theorem dX6_addToken_8 : decode cX6_addToken 8 = .ok (.getfield 15, 3) := by decide +kernel
theorem dX6_addToken_11 : decode cX6_addToken 11 = .ok (.iload_n 1, 1) := by decide +kernel
theorem dX6_addToken_12 : decode cX6_addToken 12 = .ok (.iaload, 1) := by decide +kernel
theorem dX6_addToken_13 : decode cX6_addToken 13 = .ok (.iadd, 1) := by decide +kernel
theorem dX6_addToken_14 : decode cX6_addToken 14 = .ok (.iload_n 2, 1) := by decide +kernel
theorem dX6_addToken_15 : decode cX6_addToken 15 = .ok (.iastore, 1) := by decide +kernel
theorem dX6_addToken_16 : decode cX6_addToken 16 = .ok (.aload_n 0, 1) := by decide +kernel
theorem dX6_addToken_17 : decode cX6_addToken 17 = .ok (.getfield 15, 3) := by decide +kernel
theorem dX6_addToken_20 : decode cX6_addToken 20 = .ok (.iload_n 1, 1) := by decide +kernel
theorem dX6_addToken_21 : decode cX6_addToken 21 = .ok (.dup2, 1) := by decide +kernel
theorem dX6_addToken_22 : decode cX6_addToken 22 = .ok (.iaload, 1) := by decide +kernel
theorem dX6_addToken_23 : decode cX6_addToken 23 = .ok (.iconst 1, 1) := by decide +kernel
theorem dX6_addToken_24 : decode cX6_addToken 24 = .ok (.iadd, 1) := by decide +kernel
theorem dX6_addToken_25 : decode cX6_addToken 25 = .ok (.iastore, 1) := by decide +kernel
theorem dX6_addToken_26 : decode cX6_addToken 26 = .ok (.aload_n 0, 1) := by decide +kernel
theorem dX6_addToken_27 : decode cX6_addToken 27 = .ok (.getfield 15, 3) := by decide +kernel
theorem dX6_addToken_30 : decode cX6_addToken 30 = .ok (.iload_n 1, 1) := by decide +kernel
theorem dX6_addToken_31 : decode cX6_addToken 31 = .ok (.iaload, 1) := by decide +kernel
theorem dX6_addToken_32 : decode cX6_addToken 32 = .ok (.ireturn, 1) := by decide +kernel
theorem dX6_tokenAt_0 : decode cX6_tokenAt 0 = .ok (.aload_n 0, 1) := by decide +kernel
theorem dX6_tokenAt_1 : decode cX6_tokenAt 1 = .ok (.getfield 18, 3) := by decide +kernel
theorem dX6_tokenAt_4 : decode cX6_tokenAt 4 = .ok (.iload_n 1, 1) := by decide +kernel
theorem dX6_tokenAt_5 : decode cX6_tokenAt 5 = .ok (.iconst 4, 1) := by decide +kernel
theorem dX6_tokenAt_6 : decode cX6_tokenAt 6 = .ok (.imul, 1) := by decide +kernel
theorem dX6_tokenAt_7 : decode cX6_tokenAt 7 = .ok (.iload_n 2, 1) := by decide +kernel
theorem dX6_tokenAt_8 : decode cX6_tokenAt 8 = .ok (.iadd, 1) := by decide +kernel
theorem dX6_tokenAt_9 : decode cX6_tokenAt 9 = .ok (.iaload, 1) := by decide +kernel
theorem dX6_tokenAt_10 : decode cX6_tokenAt 10 = .ok (.ireturn, 1) := by decide +kernel
theorem dX6_hasVerb_0 : decode cX6_hasVerb 0 = .ok (.iconst 0, 1) := by decide +kernel
theorem dX6_hasVerb_1 : decode cX6_hasVerb 1 = .ok (.istore_n 2, 1) := by decide +kernel
theorem dX6_hasVerb_2 : decode cX6_hasVerb 2 = .ok (.iload_n 2, 1) := by decide +kernel
theorem dX6_hasVerb_3 : decode cX6_hasVerb 3 = .ok (.aload_n 0, 1) := by decide +kernel
theorem dX6_hasVerb_4 : decode cX6_hasVerb 4 = .ok (.getfield 21, 3) := by decide +kernel
theorem dX6_hasVerb_7 : decode cX6_hasVerb 7 = .ok (.if_icmp .ge 21, 3) := by decide +kernel
theorem dX6_hasVerb_10 : decode cX6_hasVerb 10 = .ok (.aload_n 0, 1) := by decide +kernel
theorem dX6_hasVerb_11 : decode cX6_hasVerb 11 = .ok (.getfield 9, 3) := by decide +kernel
theorem dX6_hasVerb_14 : decode cX6_hasVerb 14 = .ok (.iload_n 2, 1) := by decide +kernel
theorem dX6_hasVerb_15 : decode cX6_hasVerb 15 = .ok (.iaload, 1) := by decide +kernel
theorem dX6_hasVerb_16 : decode cX6_hasVerb 16 = .ok (.iload_n 1, 1) := by decide +kernel
theorem dX6_hasVerb_17 : decode cX6_hasVerb 17 = .ok (.if_icmp .ne 5, 3) := by decide +kernel
theorem dX6_hasVerb_20 : decode cX6_hasVerb 20 = .ok (.iconst 1, 1) := by decide +kernel
theorem dX6_hasVerb_21 : decode cX6_hasVerb 21 = .ok (.ireturn, 1) := by decide +kernel
theorem dX6_hasVerb_22 : decode cX6_hasVerb 22 = .ok (.iinc 2 1, 3) := by decide +kernel
theorem dX6_hasVerb_25 : decode cX6_hasVerb 25 = .ok (.goto (-23), 3) := by decide +kernel
theorem dX6_hasVerb_28 : decode cX6_hasVerb 28 = .ok (.iconst 0, 1) := by decide +kernel
theorem dX6_hasVerb_29 : decode cX6_hasVerb 29 = .ok (.ireturn, 1) := by decide +kernel
theorem dX7_init_0 : decode cX7_init 0 = .ok (.aload_n 0, 1) := by decide +kernel
theorem dX7_init_1 : decode cX7_init 1 = .ok (.invokespecial 3, 3) := by decide +kernel
theorem dX7_init_4 : decode cX7_init 4 = .ok (.aload_n 0, 1) := by decide +kernel
theorem dX7_init_5 : decode cX7_init 5 = .ok (.getstatic 9, 3) := by decide +kernel
theorem dX7_init_8 : decode cX7_init 8 = .ok (.arraylength, 1) := by decide +kernel
theorem dX7_init_9 : decode cX7_init 9 = .ok (.newarray .int, 2) := by decide +kernel
theorem dX7_init_11 : decode cX7_init 11 = .ok (.putfield 13, 3) := by decide +kernel
theorem dX7_init_14 : decode cX7_init 14 = .ok (.getstatic 9, 3) := by decide +kernel
theorem dX7_init_17 : decode cX7_init 17 = .ok (.iconst 0, 1) := by decide +kernel
theorem dX7_init_18 : decode cX7_init 18 = .ok (.aload_n 0, 1) := by decide +kernel
theorem dX7_init_19 : decode cX7_init 19 = .ok (.getfield 13, 3) := by decide +kernel
theorem dX7_init_22 : decode cX7_init 22 = .ok (.iconst 0, 1) := by decide +kernel
theorem dX7_init_23 : decode cX7_init 23 = .ok (.getstatic 9, 3) := by decide +kernel
theorem dX7_init_26 : decode cX7_init 26 = .ok (.arraylength, 1) := by decide +kernel
theorem dX7_init_27 : decode cX7_init 27 = .ok (.invokestatic 18, 3) := by decide +kernel
theorem dX7_init_30 : decode cX7_init 30 = .ok (.aload_n 0, 1) := by decide +kernel
theorem dX7_init_31 : decode cX7_init 31 = .ok (.sipush 676, 3) := by decide +kernel
theorem dX7_init_34 : decode cX7_init 34 = .ok (.newarray .boolean, 2) := by decide +kernel
theorem dX7_init_36 : decode cX7_init 36 = .ok (.putfield 24, 3) := by decide +kernel
theorem dX7_init_39 : decode cX7_init 39 = .ok (.return_, 1) := by decide +kernel
theorem dX7_makeNear_0 : decode cX7_makeNear 0 = .ok (.aload_n 0, 1) := by decide +kernel
theorem dX7_makeNear_1 : decode cX7_makeNear 1 = .ok (.getfield 24, 3) := by decide +kernel
theorem dX7_makeNear_4 : decode cX7_makeNear 4 = .ok (.iload_n 1, 1) := by decide +kernel
theorem dX7_makeNear_5 : decode cX7_makeNear 5 = .ok (.bipush 26, 2) := by decide +kernel
theorem dX7_makeNear_7 : decode cX7_makeNear 7 = .ok (.imul, 1) := by decide +kernel
theorem dX7_makeNear_8 : decode cX7_makeNear 8 = .ok (.iload_n 2, 1) := by decide +kernel
theorem dX7_makeNear_9 : decode cX7_makeNear 9 = .ok (.iadd, 1) := by decide +kernel
theorem dX7_makeNear_10 : decode cX7_makeNear 10 = .ok (.baload, 1) := by decide +kernel
theorem dX7_makeNear_11 : decode cX7_makeNear 11 = .ok (.ifCond .ne 7, 3) := by decide +kernel
theorem dX7_makeNear_14 : decode cX7_makeNear 14 = .ok (.iconst 1, 1) := by decide +kernel
theorem dX7_makeNear_15 : decode cX7_makeNear 15 = .ok (.goto 4, 3) := by decide +kernel
theorem dX7_makeNear_18 : decode cX7_makeNear 18 = .ok (.iconst 0, 1) := by decide +kernel
theorem dX7_makeNear_19 : decode cX7_makeNear 19 = .ok (.istore_n 3, 1) := by decide +kernel
theorem dX7_makeNear_20 : decode cX7_makeNear 20 = .ok (.aload_n 0, 1) := by decide +kernel
theorem dX7_makeNear_21 : decode cX7_makeNear 21 = .ok (.getfield 24, 3) := by decide +kernel
theorem dX7_makeNear_24 : decode cX7_makeNear 24 = .ok (.iload_n 1, 1) := by decide +kernel
theorem dX7_makeNear_25 : decode cX7_makeNear 25 = .ok (.bipush 26, 2) := by decide +kernel
theorem dX7_makeNear_27 : decode cX7_makeNear 27 = .ok (.imul, 1) := by decide +kernel
theorem dX7_makeNear_28 : decode cX7_makeNear 28 = .ok (.iload_n 2, 1) := by decide +kernel
theorem dX7_makeNear_29 : decode cX7_makeNear 29 = .ok (.iadd, 1) := by decide +kernel
theorem dX7_makeNear_30 : decode cX7_makeNear 30 = .ok (.iconst 1, 1) := by decide +kernel
theorem dX7_makeNear_31 : decode cX7_makeNear 31 = .ok (.bastore, 1) := by decide +kernel
theorem dX7_makeNear_32 : decode cX7_makeNear 32 = .ok (.aload_n 0, 1) := by decide +kernel
theorem dX7_makeNear_33 : decode cX7_makeNear 33 = .ok (.getfield 24, 3) := by decide +kernel
theorem dX7_makeNear_36 : decode cX7_makeNear 36 = .ok (.iload_n 2, 1) := by decide +kernel
theorem dX7_makeNear_37 : decode cX7_makeNear 37 = .ok (.bipush 26, 2) := by decide +kernel
theorem dX7_makeNear_39 : decode cX7_makeNear 39 = .ok (.imul, 1) := by decide +kernel
theorem dX7_makeNear_40 : decode cX7_makeNear 40 = .ok (.iload_n 1, 1) := by decide +kernel
theorem dX7_makeNear_41 : decode cX7_makeNear 41 = .ok (.iadd, 1) := by decide +kernel
theorem dX7_makeNear_42 : decode cX7_makeNear 42 = .ok (.iconst 1, 1) := by decide +kernel
theorem dX7_makeNear_43 : decode cX7_makeNear 43 = .ok (.bastore, 1) := by decide +kernel
theorem dX7_makeNear_44 : decode cX7_makeNear 44 = .ok (.iload_n 3, 1) := by decide +kernel
theorem dX7_makeNear_45 : decode cX7_makeNear 45 = .ok (.ireturn, 1) := by decide +kernel
theorem dX7_costOfChange_0 : decode cX7_costOfChange 0 = .ok (.iload_n 1, 1) := by decide +kernel
theorem dX7_costOfChange_1 : decode cX7_costOfChange 1 = .ok (.iload_n 2, 1) := by decide +kernel
theorem dX7_costOfChange_2 : decode cX7_costOfChange 2 = .ok (.if_icmp .ne 5, 3) := by decide +kernel
theorem dX7_costOfChange_5 : decode cX7_costOfChange 5 = .ok (.iconst 0, 1) := by decide +kernel
theorem dX7_costOfChange_6 : decode cX7_costOfChange 6 = .ok (.ireturn, 1) := by decide +kernel
theorem dX7_costOfChange_7 : decode cX7_costOfChange 7 = .ok (.aload_n 0, 1) := by decide +kernel
theorem dX7_costOfChange_8 : decode cX7_costOfChange 8 = .ok (.getfield 13, 3) := by decide +kernel
theorem dX7_costOfChange_11 : decode cX7_costOfChange 11 = .ok (.iconst 3, 1) := by decide +kernel
theorem dX7_costOfChange_12 : decode cX7_costOfChange 12 = .ok (.iaload, 1) := by decide +kernel
theorem dX7_costOfChange_13 : decode cX7_costOfChange 13 = .ok (.aload_n 0, 1) := by decide +kernel
theorem dX7_costOfChange_14 : decode cX7_costOfChange 14 = .ok (.getfield 13, 3) := by decide +kernel
theorem dX7_costOfChange_17 : decode cX7_costOfChange 17 = .ok (.iconst 2, 1) := by decide +kernel
theorem dX7_costOfChange_18 : decode cX7_costOfChange 18 = .ok (.iaload, 1) := by decide +kernel
theorem dX7_costOfChange_19 : decode cX7_costOfChange 19 = .ok (.if_icmp .ge 7, 3) := by decide +kernel
theorem dX7_costOfChange_22 : decode cX7_costOfChange 22 = .ok (.iconst 1, 1) := by decide +kernel
theorem dX7_costOfChange_23 : decode cX7_costOfChange 23 = .ok (.goto 4, 3) := by decide +kernel
theorem dX7_costOfChange_26 : decode cX7_costOfChange 26 = .ok (.iconst 0, 1) := by decide +kernel
theorem dX7_costOfChange_27 : decode cX7_costOfChange 27 = .ok (.istore_n 3, 1) := by decide +kernel
theorem dX7_costOfChange_28 : decode cX7_costOfChange 28 = .ok (.iload_n 3, 1) := by decide +kernel
theorem dX7_costOfChange_29 : decode cX7_costOfChange 29 = .ok (.ifCond .eq 26, 3) := by decide +kernel
theorem dX7_costOfChange_32 : decode cX7_costOfChange 32 = .ok (.aload_n 0, 1) := by decide +kernel
theorem dX7_costOfChange_33 : decode cX7_costOfChange 33 = .ok (.getfield 24, 3) := by decide +kernel
theorem dX7_costOfChange_36 : decode cX7_costOfChange 36 = .ok (.iload_n 1, 1) := by decide +kernel
theorem dX7_costOfChange_37 : decode cX7_costOfChange 37 = .ok (.bipush 26, 2) := by decide +kernel
theorem dX7_costOfChange_39 : decode cX7_costOfChange 39 = .ok (.imul, 1) := by decide +kernel
theorem dX7_costOfChange_40 : decode cX7_costOfChange 40 = .ok (.iload_n 2, 1) := by decide +kernel
theorem dX7_costOfChange_41 : decode cX7_costOfChange 41 = .ok (.iadd, 1) := by decide +kernel
theorem dX7_costOfChange_42 : decode cX7_costOfChange 42 = .ok (.baload, 1) := by decide +kernel
theorem dX7_costOfChange_43 : decode cX7_costOfChange 43 = .ok (.ifCond .eq 12, 3) := by decide +kernel
theorem dX7_costOfChange_46 : decode cX7_costOfChange 46 = .ok (.aload_n 0, 1) := by decide +kernel
theorem dX7_costOfChange_47 : decode cX7_costOfChange 47 = .ok (.getfield 13, 3) := by decide +kernel
theorem dX7_costOfChange_50 : decode cX7_costOfChange 50 = .ok (.iconst 3, 1) := by decide +kernel
theorem dX7_costOfChange_51 : decode cX7_costOfChange 51 = .ok (.iaload, 1) := by decide +kernel
theorem dX7_costOfChange_52 : decode cX7_costOfChange 52 = .ok (.goto 9, 3) := by decide +kernel
theorem dX7_costOfChange_55 : decode cX7_costOfChange 55 = .ok (.aload_n 0, 1) := by decide +kernel
theorem dX7_costOfChange_56 : decode cX7_costOfChange 56 = .ok (.getfield 13, 3) := by decide +kernel
theorem dX7_costOfChange_59 : decode cX7_costOfChange 59 = .ok (.iconst 2, 1) := by decide +kernel
theorem dX7_costOfChange_60 : decode cX7_costOfChange 60 = .ok (.iaload, 1) := by decide +kernel
theorem dX7_costOfChange_61 : decode cX7_costOfChange 61 = .ok (.ireturn, 1) := by decide +kernel
theorem dX8_init_0 : decode cX8_init 0 = .ok (.aload_n 0, 1) := by decide +kernel
theorem dX8_init_1 : decode cX8_init 1 = .ok (.invokespecial 3, 3) := by decide +kernel
theorem dX8_init_4 : decode cX8_init 4 = .ok (.aload_n 0, 1) := by decide +kernel
theorem dX8_init_5 : decode cX8_init 5 = .ok (.aload_n 1, 1) := by decide +kernel
theorem dX8_init_6 : decode cX8_init 6 = .ok (.putfield 9, 3) := by decide +kernel
theorem dX8_init_9 : decode cX8_init 9 = .ok (.aload_n 0, 1) := by decide +kernel
theorem dX8_init_10 : decode cX8_init 10 = .ok (.aload_n 2, 1) := by decide +kernel
theorem dX8_init_11 : decode cX8_init 11 = .ok (.putfield 15, 3) := by decide +kernel
theorem dX8_init_14 : decode cX8_init 14 = .ok (.aload_n 0, 1) := by decide +kernel
theorem dX8_init_15 : decode cX8_init 15 = .ok (.sipush 1209, 3) := by decide +kernel
theorem dX8_init_18 : decode cX8_init 18 = .ok (.newarray .int, 2) := by decide +kernel
theorem dX8_init_20 : decode cX8_init 20 = .ok (.putfield 19, 3) := by decide +kernel
theorem dX8_init_23 : decode cX8_init 23 = .ok (.aload_n 0, 1) := by decide +kernel
theorem dX8_init_24 : decode cX8_init 24 = .ok (.iconst (-1), 1) := by decide +kernel
theorem dX8_init_25 : decode cX8_init 25 = .ok (.putfield 23, 3) := by decide +kernel
theorem dX8_init_28 : decode cX8_init 28 = .ok (.aload_n 0, 1) := by decide +kernel
theorem dX8_init_29 : decode cX8_init 29 = .ok (.iconst (-1), 1) := by decide +kernel
theorem dX8_init_30 : decode cX8_init 30 = .ok (.putfield 27, 3) := by decide +kernel
theorem dX8_init_33 : decode cX8_init 33 = .ok (.aload_n 0, 1) := by decide +kernel
theorem dX8_init_34 : decode cX8_init 34 = .ok (.iconst 0, 1) := by decide +kernel
theorem dX8_init_35 : decode cX8_init 35 = .ok (.putfield 30, 3) := by decide +kernel
theorem dX8_init_38 : decode cX8_init 38 = .ok (.return_, 1) := by decide +kernel
theorem dX8_cost_0 : decode cX8_cost 0 = .ok (.aload_n 0, 1) := by decide +kernel
theorem dX8_cost_1 : decode cX8_cost 1 = .ok (.getfield 19, 3) := by decide +kernel
theorem dX8_cost_4 : decode cX8_cost 4 = .ok (.iload_n 1, 1) := by decide +kernel
theorem dX8_cost_5 : decode cX8_cost 5 = .ok (.bipush 13, 2) := by decide +kernel
theorem dX8_cost_7 : decode cX8_cost 7 = .ok (.imul, 1) := by decide +kernel
theorem dX8_cost_8 : decode cX8_cost 8 = .ok (.iload_n 2, 1) := by decide +kernel
theorem dX8_cost_9 : decode cX8_cost 9 = .ok (.iadd, 1) := by decide +kernel
theorem dX8_cost_10 : decode cX8_cost 10 = .ok (.iaload, 1) := by decide +kernel
theorem dX8_cost_11 : decode cX8_cost 11 = .ok (.ireturn, 1) := by decide +kernel
theorem dX8_nearestName_0 : decode cX8_nearestName 0 = .ok (.iconst (-1), 1) := by decide +kernel
theorem dX8_nearestName_1 : decode cX8_nearestName 1 = .ok (.istore 4, 2) := by decide +kernel
theorem dX8_nearestName_3 : decode cX8_nearestName 3 = .ok (.aload_n 0, 1) := by decide +kernel
theorem dX8_nearestName_4 : decode cX8_nearestName 4 = .ok (.iconst 0, 1) := by decide +kernel
theorem dX8_nearestName_5 : decode cX8_nearestName 5 = .ok (.putfield 30, 3) := by decide +kernel
theorem dX8_nearestName_8 : decode cX8_nearestName 8 = .ok (.iconst 0, 1) := by decide +kernel
theorem dX8_nearestName_9 : decode cX8_nearestName 9 = .ok (.istore 5, 2) := by decide +kernel
theorem dX8_nearestName_11 : decode cX8_nearestName 11 = .ok (.iload 5, 2) := by decide +kernel
theorem dX8_nearestName_13 : decode cX8_nearestName 13 = .ok (.aload_n 0, 1) := by decide +kernel
theorem dX8_nearestName_14 : decode cX8_nearestName 14 = .ok (.getfield 15, 3) := by decide +kernel
theorem dX8_nearestName_17 : decode cX8_nearestName 17 = .ok (.getfield 33, 3) := by decide +kernel
theorem dX8_nearestName_20 : decode cX8_nearestName 20 = .ok (.if_icmp .ge 61, 3) := by decide +kernel
theorem dX8_nearestName_23 : decode cX8_nearestName 23 = .ok (.aload_n 0, 1) := by decide +kernel
theorem dX8_nearestName_24 : decode cX8_nearestName 24 = .ok (.getfield 15, 3) := by decide +kernel
theorem dX8_nearestName_27 : decode cX8_nearestName 27 = .ok (.getfield 38, 3) := by decide +kernel
theorem dX8_nearestName_30 : decode cX8_nearestName 30 = .ok (.iload 5, 2) := by decide +kernel
theorem dX8_nearestName_32 : decode cX8_nearestName 32 = .ok (.iaload, 1) := by decide +kernel
theorem dX8_nearestName_33 : decode cX8_nearestName 33 = .ok (.iload_n 1, 1) := by decide +kernel
theorem dX8_nearestName_34 : decode cX8_nearestName 34 = .ok (.if_icmp .eq 6, 3) := by decide +kernel
theorem dX8_nearestName_37 : decode cX8_nearestName 37 = .ok (.goto 38, 3) := by decide +kernel
theorem dX8_nearestName_40 : decode cX8_nearestName 40 = .ok (.aload_n 0, 1) := by decide +kernel
theorem dX8_nearestName_41 : decode cX8_nearestName 41 = .ok (.iload 5, 2) := by decide +kernel
theorem dX8_nearestName_43 : decode cX8_nearestName 43 = .ok (.aload_n 2, 1) := by decide +kernel
theorem dX8_nearestName_44 : decode cX8_nearestName 44 = .ok (.iload_n 3, 1) := by decide +kernel
theorem dX8_nearestName_45 : decode cX8_nearestName 45 = .ok (.invokevirtual 41, 3) := by decide +kernel
theorem dX8_nearestName_48 : decode cX8_nearestName 48 = .ok (.istore 6, 2) := by decide +kernel
theorem dX8_nearestName_50 : decode cX8_nearestName 50 = .ok (.iload 4, 2) := by decide +kernel
theorem dX8_nearestName_52 : decode cX8_nearestName 52 = .ok (.iconst (-1), 1) := by decide +kernel
theorem dX8_nearestName_53 : decode cX8_nearestName 53 = .ok (.if_icmp .eq 12, 3) := by decide +kernel
theorem dX8_nearestName_56 : decode cX8_nearestName 56 = .ok (.iload 6, 2) := by decide +kernel
theorem dX8_nearestName_58 : decode cX8_nearestName 58 = .ok (.aload_n 0, 1) := by decide +kernel
theorem dX8_nearestName_59 : decode cX8_nearestName 59 = .ok (.getfield 30, 3) := by decide +kernel
theorem dX8_nearestName_62 : decode cX8_nearestName 62 = .ok (.if_icmp .ge 13, 3) := by decide +kernel
theorem dX8_nearestName_65 : decode cX8_nearestName 65 = .ok (.iload 5, 2) := by decide +kernel
theorem dX8_nearestName_67 : decode cX8_nearestName 67 = .ok (.istore 4, 2) := by decide +kernel
theorem dX8_nearestName_69 : decode cX8_nearestName 69 = .ok (.aload_n 0, 1) := by decide +kernel
theorem dX8_nearestName_70 : decode cX8_nearestName 70 = .ok (.iload 6, 2) := by decide +kernel
theorem dX8_nearestName_72 : decode cX8_nearestName 72 = .ok (.putfield 30, 3) := by decide +kernel
theorem dX8_nearestName_75 : decode cX8_nearestName 75 = .ok (.iinc 5 1, 3) := by decide +kernel
theorem dX8_nearestName_78 : decode cX8_nearestName 78 = .ok (.goto (-67), 3) := by decide +kernel
theorem dX8_nearestName_81 : decode cX8_nearestName 81 = .ok (.iload 4, 2) := by decide +kernel
theorem dX8_nearestName_83 : decode cX8_nearestName 83 = .ok (.ireturn, 1) := by decide +kernel
theorem dX8_fill_0 : decode cX8_fill 0 = .ok (.aload_n 0, 1) := by decide +kernel
theorem dX8_fill_1 : decode cX8_fill 1 = .ok (.aload_n 2, 1) := by decide +kernel
theorem dX8_fill_2 : decode cX8_fill 2 = .ok (.getfield 45, 3) := by decide +kernel
theorem dX8_fill_5 : decode cX8_fill 5 = .ok (.iload_n 3, 1) := by decide +kernel
theorem dX8_fill_6 : decode cX8_fill 6 = .ok (.iaload, 1) := by decide +kernel
theorem dX8_fill_7 : decode cX8_fill 7 = .ok (.putfield 23, 3) := by decide +kernel
theorem dX8_fill_10 : decode cX8_fill 10 = .ok (.aload_n 0, 1) := by decide +kernel
theorem dX8_fill_11 : decode cX8_fill 11 = .ok (.aload_n 0, 1) := by decide +kernel
theorem dX8_fill_12 : decode cX8_fill 12 = .ok (.getfield 15, 3) := by decide +kernel
theorem dX8_fill_15 : decode cX8_fill 15 = .ok (.getfield 50, 3) := by decide +kernel
theorem dX8_fill_18 : decode cX8_fill 18 = .ok (.iload_n 1, 1) := by decide +kernel
theorem dX8_fill_19 : decode cX8_fill 19 = .ok (.iaload, 1) := by decide +kernel
theorem dX8_fill_20 : decode cX8_fill 20 = .ok (.putfield 27, 3) := by decide +kernel
theorem dX8_fill_23 : decode cX8_fill 23 = .ok (.aload_n 2, 1) := by decide +kernel
theorem dX8_fill_24 : decode cX8_fill 24 = .ok (.getfield 51, 3) := by decide +kernel
theorem dX8_fill_27 : decode cX8_fill 27 = .ok (.iload_n 3, 1) := by decide +kernel
theorem dX8_fill_28 : decode cX8_fill 28 = .ok (.iaload, 1) := by decide +kernel
theorem dX8_fill_29 : decode cX8_fill 29 = .ok (.istore 4, 2) := by decide +kernel
theorem dX8_fill_31 : decode cX8_fill 31 = .ok (.iload_n 1, 1) := by decide +kernel
theorem dX8_fill_32 : decode cX8_fill 32 = .ok (.bipush 12, 2) := by decide +kernel
theorem dX8_fill_34 : decode cX8_fill 34 = .ok (.imul, 1) := by decide +kernel
theorem dX8_fill_35 : decode cX8_fill 35 = .ok (.istore 5, 2) := by decide +kernel
theorem dX8_fill_37 : decode cX8_fill 37 = .ok (.iconst 0, 1) := by decide +kernel
theorem dX8_fill_38 : decode cX8_fill 38 = .ok (.istore 6, 2) := by decide +kernel
theorem dX8_fill_40 : decode cX8_fill 40 = .ok (.iload 6, 2) := by decide +kernel
theorem dX8_fill_42 : decode cX8_fill 42 = .ok (.aload_n 0, 1) := by decide +kernel
theorem dX8_fill_43 : decode cX8_fill 43 = .ok (.getfield 23, 3) := by decide +kernel
theorem dX8_fill_46 : decode cX8_fill 46 = .ok (.if_icmp .gt 94, 3) := by decide +kernel
theorem dX8_fill_49 : decode cX8_fill 49 = .ok (.iconst 0, 1) := by decide +kernel
theorem dX8_fill_50 : decode cX8_fill 50 = .ok (.istore 7, 2) := by decide +kernel
theorem dX8_fill_52 : decode cX8_fill 52 = .ok (.iload 7, 2) := by decide +kernel
theorem dX8_fill_54 : decode cX8_fill 54 = .ok (.aload_n 0, 1) := by decide +kernel
theorem dX8_fill_55 : decode cX8_fill 55 = .ok (.getfield 27, 3) := by decide +kernel
theorem dX8_fill_58 : decode cX8_fill 58 = .ok (.if_icmp .gt 76, 3) := by decide +kernel
theorem dX8_fill_61 : decode cX8_fill 61 = .ok (.aload_n 0, 1) := by decide +kernel
theorem dX8_fill_62 : decode cX8_fill 62 = .ok (.getfield 19, 3) := by decide +kernel
theorem dX8_fill_65 : decode cX8_fill 65 = .ok (.iload 6, 2) := by decide +kernel
theorem dX8_fill_67 : decode cX8_fill 67 = .ok (.bipush 13, 2) := by decide +kernel
theorem dX8_fill_69 : decode cX8_fill 69 = .ok (.imul, 1) := by decide +kernel
theorem dX8_fill_70 : decode cX8_fill 70 = .ok (.iload 7, 2) := by decide +kernel
theorem dX8_fill_72 : decode cX8_fill 72 = .ok (.iadd, 1) := by decide +kernel
theorem dX8_fill_73 : decode cX8_fill 73 = .ok (.iload 6, 2) := by decide +kernel
theorem dX8_fill_75 : decode cX8_fill 75 = .ok (.ifCond .eq 8, 3) := by decide +kernel
theorem dX8_fill_78 : decode cX8_fill 78 = .ok (.iload 7, 2) := by decide +kernel
theorem dX8_fill_80 : decode cX8_fill 80 = .ok (.ifCond .ne 31, 3) := by decide +kernel
theorem dX8_fill_83 : decode cX8_fill 83 = .ok (.iload 6, 2) := by decide +kernel
theorem dX8_fill_85 : decode cX8_fill 85 = .ok (.aload_n 0, 1) := by decide +kernel
theorem dX8_fill_86 : decode cX8_fill 86 = .ok (.getfield 9, 3) := by decide +kernel
theorem dX8_fill_89 : decode cX8_fill 89 = .ok (.getfield 54, 3) := by decide +kernel
theorem dX8_fill_92 : decode cX8_fill 92 = .ok (.iconst 0, 1) := by decide +kernel
theorem dX8_fill_93 : decode cX8_fill 93 = .ok (.iaload, 1) := by decide +kernel
theorem dX8_fill_94 : decode cX8_fill 94 = .ok (.imul, 1) := by decide +kernel
theorem dX8_fill_95 : decode cX8_fill 95 = .ok (.iload 7, 2) := by decide +kernel
theorem dX8_fill_97 : decode cX8_fill 97 = .ok (.aload_n 0, 1) := by decide +kernel
theorem dX8_fill_98 : decode cX8_fill 98 = .ok (.getfield 9, 3) := by decide +kernel
theorem dX8_fill_101 : decode cX8_fill 101 = .ok (.getfield 54, 3) := by decide +kernel
theorem dX8_fill_104 : decode cX8_fill 104 = .ok (.iconst 1, 1) := by decide +kernel
theorem dX8_fill_105 : decode cX8_fill 105 = .ok (.iaload, 1) := by decide +kernel
theorem dX8_fill_106 : decode cX8_fill 106 = .ok (.imul, 1) := by decide +kernel
theorem dX8_fill_107 : decode cX8_fill 107 = .ok (.iadd, 1) := by decide +kernel
theorem dX8_fill_108 : decode cX8_fill 108 = .ok (.goto 19, 3) := by decide +kernel
theorem dX8_fill_111 : decode cX8_fill 111 = .ok (.aload_n 0, 1) := by decide +kernel
theorem dX8_fill_112 : decode cX8_fill 112 = .ok (.aload_n 2, 1) := by decide +kernel
theorem dX8_fill_113 : decode cX8_fill 113 = .ok (.getfield 59, 3) := by decide +kernel
theorem dX8_fill_116 : decode cX8_fill 116 = .ok (.iload 4, 2) := by decide +kernel
theorem dX8_fill_118 : decode cX8_fill 118 = .ok (.iload 5, 2) := by decide +kernel
theorem dX8_fill_120 : decode cX8_fill 120 = .ok (.iload 6, 2) := by decide +kernel
theorem dX8_fill_122 : decode cX8_fill 122 = .ok (.iload 7, 2) := by decide +kernel
theorem dX8_fill_124 : decode cX8_fill 124 = .ok (.invokevirtual 62, 3) := by decide +kernel
theorem dX8_fill_127 : decode cX8_fill 127 = .ok (.iastore, 1) := by decide +kernel
theorem dX8_fill_128 : decode cX8_fill 128 = .ok (.iinc 7 1, 3) := by decide +kernel
theorem dX8_fill_131 : decode cX8_fill 131 = .ok (.goto (-79), 3) := by decide +kernel
theorem dX8_fill_134 : decode cX8_fill 134 = .ok (.iinc 6 1, 3) := by decide +kernel
theorem dX8_fill_137 : decode cX8_fill 137 = .ok (.goto (-97), 3) := by decide +kernel
theorem dX8_fill_140 : decode cX8_fill 140 = .ok (.aload_n 0, 1) := by decide +kernel
theorem dX8_fill_141 : decode cX8_fill 141 = .ok (.aload_n 0, 1) := by decide +kernel
theorem dX8_fill_142 : decode cX8_fill 142 = .ok (.getfield 23, 3) := by decide +kernel
theorem dX8_fill_145 : decode cX8_fill 145 = .ok (.aload_n 0, 1) := by decide +kernel
theorem dX8_fill_146 : decode cX8_fill 146 = .ok (.getfield 27, 3) := by decide +kernel
theorem dX8_fill_149 : decode cX8_fill 149 = .ok (.invokevirtual 66, 3) := by decide +kernel
theorem dX8_fill_152 : decode cX8_fill 152 = .ok (.ireturn, 1) := by decide +kernel
theorem dX8_leastCost_0 : decode cX8_leastCost 0 = .ok (.aload_n 1, 1) := by decide +kernel
theorem dX8_leastCost_1 : decode cX8_leastCost 1 = .ok (.iload_n 2, 1) := by decide +kernel
theorem dX8_leastCost_2 : decode cX8_leastCost 2 = .ok (.iload 4, 2) := by decide +kernel
theorem dX8_leastCost_4 : decode cX8_leastCost 4 = .ok (.iadd, 1) := by decide +kernel
theorem dX8_leastCost_5 : decode cX8_leastCost 5 = .ok (.iconst 1, 1) := by decide +kernel
theorem dX8_leastCost_6 : decode cX8_leastCost 6 = .ok (.isub, 1) := by decide +kernel
theorem dX8_leastCost_7 : decode cX8_leastCost 7 = .ok (.iaload, 1) := by decide +kernel
theorem dX8_leastCost_8 : decode cX8_leastCost 8 = .ok (.istore 6, 2) := by decide +kernel
theorem dX8_leastCost_10 : decode cX8_leastCost 10 = .ok (.aload_n 0, 1) := by decide +kernel
theorem dX8_leastCost_11 : decode cX8_leastCost 11 = .ok (.getfield 15, 3) := by decide +kernel
theorem dX8_leastCost_14 : decode cX8_leastCost 14 = .ok (.getfield 70, 3) := by decide +kernel
theorem dX8_leastCost_17 : decode cX8_leastCost 17 = .ok (.iload_n 3, 1) := by decide +kernel
theorem dX8_leastCost_18 : decode cX8_leastCost 18 = .ok (.iload 5, 2) := by decide +kernel
theorem dX8_leastCost_20 : decode cX8_leastCost 20 = .ok (.iadd, 1) := by decide +kernel
theorem dX8_leastCost_21 : decode cX8_leastCost 21 = .ok (.iconst 1, 1) := by decide +kernel
theorem dX8_leastCost_22 : decode cX8_leastCost 22 = .ok (.isub, 1) := by decide +kernel
theorem dX8_leastCost_23 : decode cX8_leastCost 23 = .ok (.iaload, 1) := by decide +kernel
theorem dX8_leastCost_24 : decode cX8_leastCost 24 = .ok (.istore 7, 2) := by decide +kernel
theorem dX8_leastCost_26 : decode cX8_leastCost 26 = .ok (.aload_n 0, 1) := by decide +kernel
theorem dX8_leastCost_27 : decode cX8_leastCost 27 = .ok (.iload 4, 2) := by decide +kernel
theorem dX8_leastCost_29 : decode cX8_leastCost 29 = .ok (.iconst 1, 1) := by decide +kernel
theorem dX8_leastCost_30 : decode cX8_leastCost 30 = .ok (.isub, 1) := by decide +kernel
theorem dX8_leastCost_31 : decode cX8_leastCost 31 = .ok (.iload 5, 2) := by decide +kernel
theorem dX8_leastCost_33 : decode cX8_leastCost 33 = .ok (.iconst 1, 1) := by decide +kernel
theorem dX8_leastCost_34 : decode cX8_leastCost 34 = .ok (.isub, 1) := by decide +kernel
theorem dX8_leastCost_35 : decode cX8_leastCost 35 = .ok (.invokevirtual 66, 3) := by decide +kernel
theorem dX8_leastCost_38 : decode cX8_leastCost 38 = .ok (.aload_n 0, 1) := by decide +kernel
theorem dX8_leastCost_39 : decode cX8_leastCost 39 = .ok (.getfield 9, 3) := by decide +kernel
theorem dX8_leastCost_42 : decode cX8_leastCost 42 = .ok (.iload 6, 2) := by decide +kernel
theorem dX8_leastCost_44 : decode cX8_leastCost 44 = .ok (.iload 7, 2) := by decide +kernel
theorem dX8_leastCost_46 : decode cX8_leastCost 46 = .ok (.invokevirtual 71, 3) := by decide +kernel
theorem dX8_leastCost_49 : decode cX8_leastCost 49 = .ok (.iadd, 1) := by decide +kernel
theorem dX8_leastCost_50 : decode cX8_leastCost 50 = .ok (.istore 8, 2) := by decide +kernel
theorem dX8_leastCost_52 : decode cX8_leastCost 52 = .ok (.iload 8, 2) := by decide +kernel
theorem dX8_leastCost_54 : decode cX8_leastCost 54 = .ok (.aload_n 0, 1) := by decide +kernel
theorem dX8_leastCost_55 : decode cX8_leastCost 55 = .ok (.iload 4, 2) := by decide +kernel
theorem dX8_leastCost_57 : decode cX8_leastCost 57 = .ok (.iconst 1, 1) := by decide +kernel
theorem dX8_leastCost_58 : decode cX8_leastCost 58 = .ok (.isub, 1) := by decide +kernel
theorem dX8_leastCost_59 : decode cX8_leastCost 59 = .ok (.iload 5, 2) := by decide +kernel
theorem dX8_leastCost_61 : decode cX8_leastCost 61 = .ok (.invokevirtual 66, 3) := by decide +kernel
theorem dX8_leastCost_64 : decode cX8_leastCost 64 = .ok (.aload_n 0, 1) := by decide +kernel
theorem dX8_leastCost_65 : decode cX8_leastCost 65 = .ok (.getfield 9, 3) := by decide +kernel
theorem dX8_leastCost_68 : decode cX8_leastCost 68 = .ok (.getfield 54, 3) := by decide +kernel
theorem dX8_leastCost_71 : decode cX8_leastCost 71 = .ok (.iconst 0, 1) := by decide +kernel
theorem dX8_leastCost_72 : decode cX8_leastCost 72 = .ok (.iaload, 1) := by decide +kernel
theorem dX8_leastCost_73 : decode cX8_leastCost 73 = .ok (.iadd, 1) := by decide +kernel
theorem dX8_leastCost_74 : decode cX8_leastCost 74 = .ok (.invokestatic 74, 3) := by decide +kernel
theorem dX8_leastCost_77 : decode cX8_leastCost 77 = .ok (.istore 8, 2) := by decide +kernel
theorem dX8_leastCost_79 : decode cX8_leastCost 79 = .ok (.iload 8, 2) := by decide +kernel
theorem dX8_leastCost_81 : decode cX8_leastCost 81 = .ok (.aload_n 0, 1) := by decide +kernel
theorem dX8_leastCost_82 : decode cX8_leastCost 82 = .ok (.iload 4, 2) := by decide +kernel
theorem dX8_leastCost_84 : decode cX8_leastCost 84 = .ok (.iload 5, 2) := by decide +kernel
theorem dX8_leastCost_86 : decode cX8_leastCost 86 = .ok (.iconst 1, 1) := by decide +kernel
theorem dX8_leastCost_87 : decode cX8_leastCost 87 = .ok (.isub, 1) := by decide +kernel
theorem dX8_leastCost_88 : decode cX8_leastCost 88 = .ok (.invokevirtual 66, 3) := by decide +kernel
theorem dX8_leastCost_91 : decode cX8_leastCost 91 = .ok (.aload_n 0, 1) := by decide +kernel
theorem dX8_leastCost_92 : decode cX8_leastCost 92 = .ok (.getfield 9, 3) := by decide +kernel
theorem dX8_leastCost_95 : decode cX8_leastCost 95 = .ok (.getfield 54, 3) := by decide +kernel
theorem dX8_leastCost_98 : decode cX8_leastCost 98 = .ok (.iconst 1, 1) := by decide +kernel
theorem dX8_leastCost_99 : decode cX8_leastCost 99 = .ok (.iaload, 1) := by decide +kernel
theorem dX8_leastCost_100 : decode cX8_leastCost 100 = .ok (.iadd, 1) := by decide +kernel
theorem dX8_leastCost_101 : decode cX8_leastCost 101 = .ok (.invokestatic 74, 3) := by decide +kernel
theorem dX8_leastCost_104 : decode cX8_leastCost 104 = .ok (.istore 8, 2) := by decide +kernel
theorem dX8_leastCost_106 : decode cX8_leastCost 106 = .ok (.iload 4, 2) := by decide +kernel
theorem dX8_leastCost_108 : decode cX8_leastCost 108 = .ok (.iconst 1, 1) := by decide +kernel
theorem dX8_leastCost_109 : decode cX8_leastCost 109 = .ok (.if_icmp .le 77, 3) := by decide +kernel
theorem dX8_leastCost_112 : decode cX8_leastCost 112 = .ok (.iload 5, 2) := by decide +kernel
theorem dX8_leastCost_114 : decode cX8_leastCost 114 = .ok (.iconst 1, 1) := by decide +kernel
theorem dX8_leastCost_115 : decode cX8_leastCost 115 = .ok (.if_icmp .le 71, 3) := by decide +kernel
theorem dX8_leastCost_118 : decode cX8_leastCost 118 = .ok (.iload 6, 2) := by decide +kernel
theorem dX8_leastCost_120 : decode cX8_leastCost 120 = .ok (.iload 7, 2) := by decide +kernel
theorem dX8_leastCost_122 : decode cX8_leastCost 122 = .ok (.if_icmp .eq 64, 3) := by decide +kernel
theorem dX8_leastCost_125 : decode cX8_leastCost 125 = .ok (.iload 6, 2) := by decide +kernel
theorem dX8_leastCost_127 : decode cX8_leastCost 127 = .ok (.aload_n 0, 1) := by decide +kernel
theorem dX8_leastCost_128 : decode cX8_leastCost 128 = .ok (.getfield 15, 3) := by decide +kernel
theorem dX8_leastCost_131 : decode cX8_leastCost 131 = .ok (.getfield 70, 3) := by decide +kernel
theorem dX8_leastCost_134 : decode cX8_leastCost 134 = .ok (.iload_n 3, 1) := by decide +kernel
theorem dX8_leastCost_135 : decode cX8_leastCost 135 = .ok (.iload 5, 2) := by decide +kernel
theorem dX8_leastCost_137 : decode cX8_leastCost 137 = .ok (.iadd, 1) := by decide +kernel
theorem dX8_leastCost_138 : decode cX8_leastCost 138 = .ok (.iconst 2, 1) := by decide +kernel
theorem dX8_leastCost_139 : decode cX8_leastCost 139 = .ok (.isub, 1) := by decide +kernel
theorem dX8_leastCost_140 : decode cX8_leastCost 140 = .ok (.iaload, 1) := by decide +kernel
theorem dX8_leastCost_141 : decode cX8_leastCost 141 = .ok (.if_icmp .ne 45, 3) := by decide +kernel
theorem dX8_leastCost_144 : decode cX8_leastCost 144 = .ok (.iload 7, 2) := by decide +kernel
theorem dX8_leastCost_146 : decode cX8_leastCost 146 = .ok (.aload_n 1, 1) := by decide +kernel
theorem dX8_leastCost_147 : decode cX8_leastCost 147 = .ok (.iload_n 2, 1) := by decide +kernel
theorem dX8_leastCost_148 : decode cX8_leastCost 148 = .ok (.iload 4, 2) := by decide +kernel
theorem dX8_leastCost_150 : decode cX8_leastCost 150 = .ok (.iadd, 1) := by decide +kernel
theorem dX8_leastCost_151 : decode cX8_leastCost 151 = .ok (.iconst 2, 1) := by decide +kernel
theorem dX8_leastCost_152 : decode cX8_leastCost 152 = .ok (.isub, 1) := by decide +kernel
theorem dX8_leastCost_153 : decode cX8_leastCost 153 = .ok (.iaload, 1) := by decide +kernel
theorem dX8_leastCost_154 : decode cX8_leastCost 154 = .ok (.if_icmp .ne 32, 3) := by decide +kernel
theorem dX8_leastCost_157 : decode cX8_leastCost 157 = .ok (.iload 8, 2) := by decide +kernel
theorem dX8_leastCost_159 : decode cX8_leastCost 159 = .ok (.aload_n 0, 1) := by decide +kernel
theorem dX8_leastCost_160 : decode cX8_leastCost 160 = .ok (.iload 4, 2) := by decide +kernel
theorem dX8_leastCost_162 : decode cX8_leastCost 162 = .ok (.iconst 2, 1) := by decide +kernel
theorem dX8_leastCost_163 : decode cX8_leastCost 163 = .ok (.isub, 1) := by decide +kernel
theorem dX8_leastCost_164 : decode cX8_leastCost 164 = .ok (.iload 5, 2) := by decide +kernel
theorem dX8_leastCost_166 : decode cX8_leastCost 166 = .ok (.iconst 2, 1) := by decide +kernel
theorem dX8_leastCost_167 : decode cX8_leastCost 167 = .ok (.isub, 1) := by decide +kernel
theorem dX8_leastCost_168 : decode cX8_leastCost 168 = .ok (.invokevirtual 66, 3) := by decide +kernel
theorem dX8_leastCost_171 : decode cX8_leastCost 171 = .ok (.aload_n 0, 1) := by decide +kernel
theorem dX8_leastCost_172 : decode cX8_leastCost 172 = .ok (.getfield 9, 3) := by decide +kernel
theorem dX8_leastCost_175 : decode cX8_leastCost 175 = .ok (.getfield 54, 3) := by decide +kernel
theorem dX8_leastCost_178 : decode cX8_leastCost 178 = .ok (.iconst 4, 1) := by decide +kernel
theorem dX8_leastCost_179 : decode cX8_leastCost 179 = .ok (.iaload, 1) := by decide +kernel
theorem dX8_leastCost_180 : decode cX8_leastCost 180 = .ok (.iadd, 1) := by decide +kernel
theorem dX8_leastCost_181 : decode cX8_leastCost 181 = .ok (.invokestatic 74, 3) := by decide +kernel
theorem dX8_leastCost_184 : decode cX8_leastCost 184 = .ok (.istore 8, 2) := by decide +kernel
theorem dX8_leastCost_186 : decode cX8_leastCost 186 = .ok (.iload 8, 2) := by decide +kernel
theorem dX8_leastCost_188 : decode cX8_leastCost 188 = .ok (.ireturn, 1) := by decide +kernel
theorem dX9_init_0 : decode cX9_init 0 = .ok (.aload_n 0, 1) := by decide +kernel
theorem dX9_init_1 : decode cX9_init 1 = .ok (.invokespecial 3, 3) := by decide +kernel
theorem dX9_init_4 : decode cX9_init 4 = .ok (.aload_n 0, 1) := by decide +kernel
theorem dX9_init_5 : decode cX9_init 5 = .ok (.bipush 60, 2) := by decide +kernel
theorem dX9_init_7 : decode cX9_init 7 = .ok (.newarray .int, 2) := by decide +kernel
theorem dX9_init_9 : decode cX9_init 9 = .ok (.putfield 9, 3) := by decide +kernel
theorem dX9_init_12 : decode cX9_init 12 = .ok (.aload_n 0, 1) := by decide +kernel
theorem dX9_init_13 : decode cX9_init 13 = .ok (.bipush 60, 2) := by decide +kernel
theorem dX9_init_15 : decode cX9_init 15 = .ok (.newarray .int, 2) := by decide +kernel
theorem dX9_init_17 : decode cX9_init 17 = .ok (.putfield 15, 3) := by decide +kernel
theorem dX9_init_20 : decode cX9_init 20 = .ok (.aload_n 0, 1) := by decide +kernel
theorem dX9_init_21 : decode cX9_init 21 = .ok (.bipush 60, 2) := by decide +kernel
theorem dX9_init_23 : decode cX9_init 23 = .ok (.newarray .boolean, 2) := by decide +kernel
theorem dX9_init_25 : decode cX9_init 25 = .ok (.putfield 18, 3) := by decide +kernel
theorem dX9_init_28 : decode cX9_init 28 = .ok (.aload_n 0, 1) := by decide +kernel
theorem dX9_init_29 : decode cX9_init 29 = .ok (.bipush 60, 2) := by decide +kernel
theorem dX9_init_31 : decode cX9_init 31 = .ok (.newarray .boolean, 2) := by decide +kernel
theorem dX9_init_33 : decode cX9_init 33 = .ok (.putfield 22, 3) := by decide +kernel
theorem dX9_init_36 : decode cX9_init 36 = .ok (.aload_n 0, 1) := by decide +kernel
theorem dX9_init_37 : decode cX9_init 37 = .ok (.iconst 0, 1) := by decide +kernel
theorem dX9_init_38 : decode cX9_init 38 = .ok (.putfield 25, 3) := by decide +kernel
theorem dX9_init_41 : decode cX9_init 41 = .ok (.return_, 1) := by decide +kernel
theorem dX9_add_0 : decode cX9_add 0 = .ok (.aload_n 0, 1) := by decide +kernel
theorem dX9_add_1 : decode cX9_add 1 = .ok (.getfield 25, 3) := by decide +kernel
theorem dX9_add_4 : decode cX9_add 4 = .ok (.istore_n 2, 1) := by decide +kernel
theorem dX9_add_5 : decode cX9_add 5 = .ok (.aload_n 0, 1) := by decide +kernel
theorem dX9_add_6 : decode cX9_add 6 = .ok (.getfield 9, 3) := by decide +kernel
theorem dX9_add_9 : decode cX9_add 9 = .ok (.iload_n 2, 1) := by decide +kernel
theorem dX9_add_10 : decode cX9_add 10 = .ok (.iload_n 1, 1) := by decide +kernel
theorem dX9_add_11 : decode cX9_add 11 = .ok (.iastore, 1) := by decide +kernel
theorem dX9_add_12 : decode cX9_add 12 = .ok (.aload_n 0, 1) := by decide +kernel
theorem dX9_add_13 : decode cX9_add 13 = .ok (.getfield 18, 3) := by decide +kernel
theorem dX9_add_16 : decode cX9_add 16 = .ok (.iload_n 2, 1) := by decide +kernel
theorem dX9_add_17 : decode cX9_add 17 = .ok (.iload_n 1, 1) := by decide +kernel
theorem dX9_add_18 : decode cX9_add 18 = .ok (.iconst 1, 1) := by decide +kernel
theorem dX9_add_19 : decode cX9_add 19 = .ok (.if_icmp .eq 7, 3) := by decide +kernel
theorem dX9_add_22 : decode cX9_add 22 = .ok (.iconst 1, 1) := by decide +kernel
theorem dX9_add_23 : decode cX9_add 23 = .ok (.goto 4, 3) := by decide +kernel
theorem dX9_add_26 : decode cX9_add 26 = .ok (.iconst 0, 1) := by decide +kernel
theorem dX9_add_27 : decode cX9_add 27 = .ok (.bastore, 1) := by decide +kernel
theorem dX9_add_28 : decode cX9_add 28 = .ok (.aload_n 0, 1) := by decide +kernel
theorem dX9_add_29 : decode cX9_add 29 = .ok (.dup, 1) := by decide +kernel
theorem dX9_add_30 : decode cX9_add 30 = .ok (.getfield 25, 3) := by decide +kernel
theorem dX9_add_33 : decode cX9_add 33 = .ok (.iconst 1, 1) := by decide +kernel
theorem dX9_add_34 : decode cX9_add 34 = .ok (.iadd, 1) := by decide +kernel
theorem dX9_add_35 : decode cX9_add 35 = .ok (.putfield 25, 3) := by decide +kernel
theorem dX9_add_38 : decode cX9_add 38 = .ok (.iload_n 2, 1) := by decide +kernel
theorem dX9_add_39 : decode cX9_add 39 = .ok (.ireturn, 1) := by decide +kernel
theorem dX9_isOf_0 : decode cX9_isOf 0 = .ok (.iload_n 1, 1) := by decide +kernel
theorem dX9_isOf_1 : decode cX9_isOf 1 = .ok (.ifCond .lt 25, 3) := by decide +kernel
theorem dX9_isOf_4 : decode cX9_isOf 4 = .ok (.iload_n 1, 1) := by decide +kernel
theorem dX9_isOf_5 : decode cX9_isOf 5 = .ok (.aload_n 0, 1) := by decide +kernel
theorem dX9_isOf_6 : decode cX9_isOf 6 = .ok (.getfield 25, 3) := by decide +kernel
theorem dX9_isOf_9 : decode cX9_isOf 9 = .ok (.if_icmp .ge 17, 3) := by decide +kernel
theorem dX9_isOf_12 : decode cX9_isOf 12 = .ok (.aload_n 0, 1) := by decide +kernel
theorem dX9_isOf_13 : decode cX9_isOf 13 = .ok (.getfield 9, 3) := by decide +kernel
theorem dX9_isOf_16 : decode cX9_isOf 16 = .ok (.iload_n 1, 1) := by decide +kernel
theorem dX9_isOf_17 : decode cX9_isOf 17 = .ok (.iaload, 1) := by decide +kernel
theorem dX9_isOf_18 : decode cX9_isOf 18 = .ok (.iload_n 2, 1) := by decide +kernel
theorem dX9_isOf_19 : decode cX9_isOf 19 = .ok (.if_icmp .ne 7, 3) := by decide +kernel
theorem dX9_isOf_22 : decode cX9_isOf 22 = .ok (.iconst 1, 1) := by decide +kernel
theorem dX9_isOf_23 : decode cX9_isOf 23 = .ok (.goto 4, 3) := by decide +kernel
theorem dX9_isOf_26 : decode cX9_isOf 26 = .ok (.iconst 0, 1) := by decide +kernel
theorem dX9_isOf_27 : decode cX9_isOf 27 = .ok (.ireturn, 1) := by decide +kernel
theorem dX9_isAs_0 : decode cX9_isAs 0 = .ok (.iload_n 2, 1) := by decide +kernel
theorem dX9_isAs_1 : decode cX9_isAs 1 = .ok (.ifCond .lt 14, 3) := by decide +kernel
theorem dX9_isAs_4 : decode cX9_isAs 4 = .ok (.iload_n 1, 1) := by decide +kernel
theorem dX9_isAs_5 : decode cX9_isAs 5 = .ok (.iload_n 2, 1) := by decide +kernel
theorem dX9_isAs_6 : decode cX9_isAs 6 = .ok (.if_icmp .ne 7, 3) := by decide +kernel
theorem dX9_isAs_9 : decode cX9_isAs 9 = .ok (.iconst 1, 1) := by decide +kernel
theorem dX9_isAs_10 : decode cX9_isAs 10 = .ok (.goto 4, 3) := by decide +kernel
theorem dX9_isAs_13 : decode cX9_isAs 13 = .ok (.iconst 0, 1) := by decide +kernel
theorem dX9_isAs_14 : decode cX9_isAs 14 = .ok (.ireturn, 1) := by decide +kernel
theorem dX9_isAs_15 : decode cX9_isAs 15 = .ok (.aload_n 0, 1) := by decide +kernel
theorem dX9_isAs_16 : decode cX9_isAs 16 = .ok (.iload_n 1, 1) := by decide +kernel
theorem dX9_isAs_17 : decode cX9_isAs 17 = .ok (.iconst 1, 1) := by decide +kernel
theorem dX9_isAs_18 : decode cX9_isAs 18 = .ok (.invokevirtual 29, 3) := by decide +kernel
theorem dX9_isAs_21 : decode cX9_isAs 21 = .ok (.ifCond .ne 5, 3) := by decide +kernel
theorem dX9_isAs_24 : decode cX9_isAs 24 = .ok (.iconst 0, 1) := by decide +kernel
theorem dX9_isAs_25 : decode cX9_isAs 25 = .ok (.ireturn, 1) := by decide +kernel
theorem dX9_isAs_26 : decode cX9_isAs 26 = .ok (.iload_n 2, 1) := by decide +kernel
theorem dX9_isAs_27 : decode cX9_isAs 27 = .ok (.iconst (-1), 1) := by decide +kernel
theorem dX9_isAs_28 : decode cX9_isAs 28 = .ok (.if_icmp .eq 20, 3) := by decide +kernel
theorem dX9_isAs_31 : decode cX9_isAs 31 = .ok (.aload_n 0, 1) := by decide +kernel
theorem dX9_isAs_32 : decode cX9_isAs 32 = .ok (.getfield 15, 3) := by decide +kernel
theorem dX9_isAs_35 : decode cX9_isAs 35 = .ok (.iload_n 1, 1) := by decide +kernel
theorem dX9_isAs_36 : decode cX9_isAs 36 = .ok (.iaload, 1) := by decide +kernel
theorem dX9_isAs_37 : decode cX9_isAs 37 = .ok (.bipush (-2), 2) := by decide +kernel
theorem dX9_isAs_39 : decode cX9_isAs 39 = .ok (.iload_n 2, 1) := by decide +kernel
theorem dX9_isAs_40 : decode cX9_isAs 40 = .ok (.isub, 1) := by decide +kernel
theorem dX9_isAs_41 : decode cX9_isAs 41 = .ok (.ishr, 1) := by decide +kernel
theorem dX9_isAs_42 : decode cX9_isAs 42 = .ok (.iconst 1, 1) := by decide +kernel
theorem dX9_isAs_43 : decode cX9_isAs 43 = .ok (.iand, 1) := by decide +kernel
theorem dX9_isAs_44 : decode cX9_isAs 44 = .ok (.iconst 1, 1) := by decide +kernel
theorem dX9_isAs_45 : decode cX9_isAs 45 = .ok (.if_icmp .ne 7, 3) := by decide +kernel
theorem dX9_isAs_48 : decode cX9_isAs 48 = .ok (.iconst 1, 1) := by decide +kernel
theorem dX9_isAs_49 : decode cX9_isAs 49 = .ok (.goto 4, 3) := by decide +kernel
theorem dX9_isAs_52 : decode cX9_isAs 52 = .ok (.iconst 0, 1) := by decide +kernel
theorem dX9_isAs_53 : decode cX9_isAs 53 = .ok (.ireturn, 1) := by decide +kernel
theorem dX9_isSeen_0 : decode cX9_isSeen 0 = .ok (.aload_n 0, 1) := by decide +kernel
theorem dX9_isSeen_1 : decode cX9_isSeen 1 = .ok (.getfield 9, 3) := by decide +kernel
theorem dX9_isSeen_4 : decode cX9_isSeen 4 = .ok (.iload_n 1, 1) := by decide +kernel
theorem dX9_isSeen_5 : decode cX9_isSeen 5 = .ok (.iaload, 1) := by decide +kernel
theorem dX9_isSeen_6 : decode cX9_isSeen 6 = .ok (.iconst 3, 1) := by decide +kernel
theorem dX9_isSeen_7 : decode cX9_isSeen 7 = .ok (.if_icmp .eq 16, 3) := by decide +kernel
theorem dX9_isSeen_10 : decode cX9_isSeen 10 = .ok (.aload_n 0, 1) := by decide +kernel
theorem dX9_isSeen_11 : decode cX9_isSeen 11 = .ok (.getfield 18, 3) := by decide +kernel
theorem dX9_isSeen_14 : decode cX9_isSeen 14 = .ok (.iload_n 1, 1) := by decide +kernel
theorem dX9_isSeen_15 : decode cX9_isSeen 15 = .ok (.baload, 1) := by decide +kernel
theorem dX9_isSeen_16 : decode cX9_isSeen 16 = .ok (.ifCond .eq 7, 3) := by decide +kernel
theorem dX9_isSeen_19 : decode cX9_isSeen 19 = .ok (.iconst 1, 1) := by decide +kernel
theorem dX9_isSeen_20 : decode cX9_isSeen 20 = .ok (.goto 4, 3) := by decide +kernel
theorem dX9_isSeen_23 : decode cX9_isSeen 23 = .ok (.iconst 0, 1) := by decide +kernel
theorem dX9_isSeen_24 : decode cX9_isSeen 24 = .ok (.ireturn, 1) := by decide +kernel
theorem dX10_init_0 : decode cX10_init 0 = .ok (.aload_n 0, 1) := by decide +kernel
theorem dX10_init_1 : decode cX10_init 1 = .ok (.invokespecial 3, 3) := by decide +kernel
theorem dX10_init_4 : decode cX10_init 4 = .ok (.aload_n 0, 1) := by decide +kernel
theorem dX10_init_5 : decode cX10_init 5 = .ok (.bipush 80, 2) := by decide +kernel
theorem dX10_init_7 : decode cX10_init 7 = .ok (.newarray .int, 2) := by decide +kernel
theorem dX10_init_9 : decode cX10_init 9 = .ok (.putfield 9, 3) := by decide +kernel
theorem dX10_init_12 : decode cX10_init 12 = .ok (.aload_n 0, 1) := by decide +kernel
theorem dX10_init_13 : decode cX10_init 13 = .ok (.iconst 0, 1) := by decide +kernel
theorem dX10_init_14 : decode cX10_init 14 = .ok (.putfield 13, 3) := by decide +kernel
theorem dX10_init_17 : decode cX10_init 17 = .ok (.aload_n 0, 1) := by decide +kernel
theorem dX10_init_18 : decode cX10_init 18 = .ok (.bipush 12, 2) := by decide +kernel
theorem dX10_init_20 : decode cX10_init 20 = .ok (.newarray .int, 2) := by decide +kernel
theorem dX10_init_22 : decode cX10_init 22 = .ok (.putfield 17, 3) := by decide +kernel
theorem dX10_init_25 : decode cX10_init 25 = .ok (.aload_n 0, 1) := by decide +kernel
theorem dX10_init_26 : decode cX10_init 26 = .ok (.new 20, 3) := by decide +kernel
theorem dX10_init_29 : decode cX10_init 29 = .ok (.dup, 1) := by decide +kernel
theorem dX10_init_30 : decode cX10_init 30 = .ok (.invokespecial 22, 3) := by decide +kernel
theorem dX10_init_33 : decode cX10_init 33 = .ok (.putfield 23, 3) := by decide +kernel
theorem dX10_init_36 : decode cX10_init 36 = .ok (.aload_n 0, 1) := by decide +kernel
theorem dX10_init_37 : decode cX10_init 37 = .ok (.new 27, 3) := by decide +kernel
theorem dX10_init_40 : decode cX10_init 40 = .ok (.dup, 1) := by decide +kernel
theorem dX10_init_41 : decode cX10_init 41 = .ok (.invokespecial 29, 3) := by decide +kernel
theorem dX10_init_44 : decode cX10_init 44 = .ok (.putfield 30, 3) := by decide +kernel
theorem dX10_init_47 : decode cX10_init 47 = .ok (.aload_n 0, 1) := by decide +kernel
theorem dX10_init_48 : decode cX10_init 48 = .ok (.new 34, 3) := by decide +kernel
theorem dX10_init_51 : decode cX10_init 51 = .ok (.dup, 1) := by decide +kernel
theorem dX10_init_52 : decode cX10_init 52 = .ok (.invokespecial 36, 3) := by decide +kernel
theorem dX10_init_55 : decode cX10_init 55 = .ok (.putfield 37, 3) := by decide +kernel
theorem dX10_init_58 : decode cX10_init 58 = .ok (.aload_n 0, 1) := by decide +kernel
theorem dX10_init_59 : decode cX10_init 59 = .ok (.new 41, 3) := by decide +kernel
theorem dX10_init_62 : decode cX10_init 62 = .ok (.dup, 1) := by decide +kernel
theorem dX10_init_63 : decode cX10_init 63 = .ok (.invokespecial 43, 3) := by decide +kernel
theorem dX10_init_66 : decode cX10_init 66 = .ok (.putfield 44, 3) := by decide +kernel
theorem dX10_init_69 : decode cX10_init 69 = .ok (.aload_n 0, 1) := by decide +kernel
theorem dX10_init_70 : decode cX10_init 70 = .ok (.new 48, 3) := by decide +kernel
theorem dX10_init_73 : decode cX10_init 73 = .ok (.dup, 1) := by decide +kernel
theorem dX10_init_74 : decode cX10_init 74 = .ok (.invokespecial 50, 3) := by decide +kernel
theorem dX10_init_77 : decode cX10_init 77 = .ok (.putfield 51, 3) := by decide +kernel
theorem dX10_init_80 : decode cX10_init 80 = .ok (.aload_n 0, 1) := by decide +kernel
theorem dX10_init_81 : decode cX10_init 81 = .ok (.new 55, 3) := by decide +kernel
theorem dX10_init_84 : decode cX10_init 84 = .ok (.dup, 1) := by decide +kernel
theorem dX10_init_85 : decode cX10_init 85 = .ok (.aload_n 0, 1) := by decide +kernel
theorem dX10_init_86 : decode cX10_init 86 = .ok (.getfield 51, 3) := by decide +kernel
theorem dX10_init_89 : decode cX10_init 89 = .ok (.aload_n 0, 1) := by decide +kernel
theorem dX10_init_90 : decode cX10_init 90 = .ok (.getfield 30, 3) := by decide +kernel
theorem dX10_init_93 : decode cX10_init 93 = .ok (.aload_n 0, 1) := by decide +kernel
theorem dX10_init_94 : decode cX10_init 94 = .ok (.getfield 37, 3) := by decide +kernel
theorem dX10_init_97 : decode cX10_init 97 = .ok (.aload_n 0, 1) := by decide +kernel
theorem dX10_init_98 : decode cX10_init 98 = .ok (.getfield 44, 3) := by decide +kernel
theorem dX10_init_101 : decode cX10_init 101 = .ok (.invokespecial 57, 3) := by decide +kernel
theorem dX10_init_104 : decode cX10_init 104 = .ok (.putfield 60, 3) := by decide +kernel
theorem dX10_init_107 : decode cX10_init 107 = .ok (.aload_n 0, 1) := by decide +kernel
theorem dX10_init_108 : decode cX10_init 108 = .ok (.new 64, 3) := by decide +kernel
theorem dX10_init_111 : decode cX10_init 111 = .ok (.dup, 1) := by decide +kernel
theorem dX10_init_112 : decode cX10_init 112 = .ok (.aload_n 0, 1) := by decide +kernel
theorem dX10_init_113 : decode cX10_init 113 = .ok (.getfield 60, 3) := by decide +kernel
theorem dX10_init_116 : decode cX10_init 116 = .ok (.new 66, 3) := by decide +kernel
theorem dX10_init_119 : decode cX10_init 119 = .ok (.dup, 1) := by decide +kernel
theorem dX10_init_120 : decode cX10_init 120 = .ok (.aload_n 0, 1) := by decide +kernel
theorem dX10_init_121 : decode cX10_init 121 = .ok (.getfield 23, 3) := by decide +kernel
theorem dX10_init_124 : decode cX10_init 124 = .ok (.aload_n 0, 1) := by decide +kernel
theorem dX10_init_125 : decode cX10_init 125 = .ok (.getfield 30, 3) := by decide +kernel
theorem dX10_init_128 : decode cX10_init 128 = .ok (.invokespecial 68, 3) := by decide +kernel
theorem dX10_init_131 : decode cX10_init 131 = .ok (.invokespecial 71, 3) := by decide +kernel
theorem dX10_init_134 : decode cX10_init 134 = .ok (.putfield 74, 3) := by decide +kernel
theorem dX10_init_137 : decode cX10_init 137 = .ok (.aload_n 0, 1) := by decide +kernel
theorem dX10_init_138 : decode cX10_init 138 = .ok (.new 78, 3) := by decide +kernel
theorem dX10_init_141 : decode cX10_init 141 = .ok (.dup, 1) := by decide +kernel
theorem dX10_init_142 : decode cX10_init 142 = .ok (.aload_n 0, 1) := by decide +kernel
theorem dX10_init_143 : decode cX10_init 143 = .ok (.getfield 60, 3) := by decide +kernel
theorem dX10_init_146 : decode cX10_init 146 = .ok (.invokespecial 80, 3) := by decide +kernel
theorem dX10_init_149 : decode cX10_init 149 = .ok (.putfield 83, 3) := by decide +kernel
theorem dX10_init_152 : decode cX10_init 152 = .ok (.aload_n 0, 1) := by decide +kernel
theorem dX10_init_153 : decode cX10_init 153 = .ok (.new 87, 3) := by decide +kernel
theorem dX10_init_156 : decode cX10_init 156 = .ok (.dup, 1) := by decide +kernel
theorem dX10_init_157 : decode cX10_init 157 = .ok (.invokespecial 89, 3) := by decide +kernel
theorem dX10_init_160 : decode cX10_init 160 = .ok (.putfield 90, 3) := by decide +kernel
theorem dX10_init_163 : decode cX10_init 163 = .ok (.aload_n 0, 1) := by decide +kernel
theorem dX10_init_164 : decode cX10_init 164 = .ok (.new 66, 3) := by decide +kernel
theorem dX10_init_167 : decode cX10_init 167 = .ok (.dup, 1) := by decide +kernel
theorem dX10_init_168 : decode cX10_init 168 = .ok (.aload_n 0, 1) := by decide +kernel
theorem dX10_init_169 : decode cX10_init 169 = .ok (.getfield 23, 3) := by decide +kernel
theorem dX10_init_172 : decode cX10_init 172 = .ok (.aload_n 0, 1) := by decide +kernel
theorem dX10_init_173 : decode cX10_init 173 = .ok (.getfield 30, 3) := by decide +kernel
theorem dX10_init_176 : decode cX10_init 176 = .ok (.invokespecial 68, 3) := by decide +kernel
theorem dX10_init_179 : decode cX10_init 179 = .ok (.putfield 94, 3) := by decide +kernel
theorem dX10_init_182 : decode cX10_init 182 = .ok (.return_, 1) := by decide +kernel
theorem dX10_feed_0 : decode cX10_feed 0 = .ok (.iload_n 1, 1) := by decide +kernel
theorem dX10_feed_1 : decode cX10_feed 1 = .ok (.iconst 1, 1) := by decide +kernel
theorem dX10_feed_2 : decode cX10_feed 2 = .ok (.if_icmp .lt 9, 3) := by decide +kernel
theorem dX10_feed_5 : decode cX10_feed 5 = .ok (.iload_n 1, 1) := by decide +kernel
theorem dX10_feed_6 : decode cX10_feed 6 = .ok (.bipush 8, 2) := by decide +kernel
theorem dX10_feed_8 : decode cX10_feed 8 = .ok (.if_icmp .le 6, 3) := by decide +kernel
theorem dX10_feed_11 : decode cX10_feed 11 = .ok (.bipush (-2), 2) := by decide +kernel
theorem dX10_feed_13 : decode cX10_feed 13 = .ok (.ireturn, 1) := by decide +kernel
theorem dX10_feed_14 : decode cX10_feed 14 = .ok (.aload_n 0, 1) := by decide +kernel
theorem dX10_feed_15 : decode cX10_feed 15 = .ok (.getfield 13, 3) := by decide +kernel
theorem dX10_feed_18 : decode cX10_feed 18 = .ok (.iload_n 1, 1) := by decide +kernel
theorem dX10_feed_19 : decode cX10_feed 19 = .ok (.iadd, 1) := by decide +kernel
theorem dX10_feed_20 : decode cX10_feed 20 = .ok (.bipush 80, 2) := by decide +kernel
theorem dX10_feed_22 : decode cX10_feed 22 = .ok (.if_icmp .le 6, 3) := by decide +kernel
theorem dX10_feed_25 : decode cX10_feed 25 = .ok (.bipush (-4), 2) := by decide +kernel
theorem dX10_feed_27 : decode cX10_feed 27 = .ok (.ireturn, 1) := by decide +kernel
theorem dX10_feed_28 : decode cX10_feed 28 = .ok (.iload_n 1, 1) := by decide +kernel
theorem dX10_feed_29 : decode cX10_feed 29 = .ok (.iconst 1, 1) := by decide +kernel
theorem dX10_feed_30 : decode cX10_feed 30 = .ok (.isub, 1) := by decide +kernel
theorem dX10_feed_31 : decode cX10_feed 31 = .ok (.istore 4, 2) := by decide +kernel
theorem dX10_feed_33 : decode cX10_feed 33 = .ok (.iload 4, 2) := by decide +kernel
theorem dX10_feed_35 : decode cX10_feed 35 = .ok (.ifCond .lt 40, 3) := by decide +kernel
theorem dX10_feed_38 : decode cX10_feed 38 = .ok (.aload_n 0, 1) := by decide +kernel
theorem dX10_feed_39 : decode cX10_feed 39 = .ok (.getfield 9, 3) := by decide +kernel
theorem dX10_feed_42 : decode cX10_feed 42 = .ok (.aload_n 0, 1) := by decide +kernel
theorem dX10_feed_43 : decode cX10_feed 43 = .ok (.getfield 13, 3) := by decide +kernel
theorem dX10_feed_46 : decode cX10_feed 46 = .ok (.lload_n 2, 1) := by decide +kernel
theorem dX10_feed_47 : decode cX10_feed 47 = .ok (.bipush 8, 2) := by decide +kernel
theorem dX10_feed_49 : decode cX10_feed 49 = .ok (.iload 4, 2) := by decide +kernel
theorem dX10_feed_51 : decode cX10_feed 51 = .ok (.imul, 1) := by decide +kernel
theorem dX10_feed_52 : decode cX10_feed 52 = .ok (.lushr, 1) := by decide +kernel
theorem dX10_feed_53 : decode cX10_feed 53 = .ok (.l2i, 1) := by decide +kernel
theorem dX10_feed_54 : decode cX10_feed 54 = .ok (.sipush 255, 3) := by decide +kernel
theorem dX10_feed_57 : decode cX10_feed 57 = .ok (.iand, 1) := by decide +kernel
theorem dX10_feed_58 : decode cX10_feed 58 = .ok (.iastore, 1) := by decide +kernel
theorem dX10_feed_59 : decode cX10_feed 59 = .ok (.aload_n 0, 1) := by decide +kernel
theorem dX10_feed_60 : decode cX10_feed 60 = .ok (.dup, 1) := by decide +kernel
theorem dX10_feed_61 : decode cX10_feed 61 = .ok (.getfield 13, 3) := by decide +kernel
theorem dX10_feed_64 : decode cX10_feed 64 = .ok (.iconst 1, 1) := by decide +kernel
theorem dX10_feed_65 : decode cX10_feed 65 = .ok (.iadd, 1) := by decide +kernel
theorem dX10_feed_66 : decode cX10_feed 66 = .ok (.putfield 13, 3) := by decide +kernel
theorem dX10_feed_69 : decode cX10_feed 69 = .ok (.iinc 4 (-1), 3) := by decide +kernel
theorem dX10_feed_72 : decode cX10_feed 72 = .ok (.goto (-39), 3) := by decide +kernel
theorem dX10_feed_75 : decode cX10_feed 75 = .ok (.aload_n 0, 1) := by decide +kernel
theorem dX10_feed_76 : decode cX10_feed 76 = .ok (.getfield 13, 3) := by decide +kernel
theorem dX10_feed_79 : decode cX10_feed 79 = .ok (.ireturn, 1) := by decide +kernel
theorem dX10_word_0 : decode cX10_word 0 = .ok (.aload_n 0, 1) := by decide +kernel
theorem dX10_word_1 : decode cX10_word 1 = .ok (.getfield 13, 3) := by decide +kernel
theorem dX10_word_4 : decode cX10_word 4 = .ok (.istore_n 2, 1) := by decide +kernel
theorem dX10_word_5 : decode cX10_word 5 = .ok (.aload_n 0, 1) := by decide +kernel
theorem dX10_word_6 : decode cX10_word 6 = .ok (.iconst 0, 1) := by decide +kernel
theorem dX10_word_7 : decode cX10_word 7 = .ok (.putfield 13, 3) := by decide +kernel
theorem dX10_word_10 : decode cX10_word 10 = .ok (.iload_n 1, 1) := by decide +kernel
theorem dX10_word_11 : decode cX10_word 11 = .ok (.ifCond .lt 16, 3) := by decide +kernel
theorem dX10_word_14 : decode cX10_word 14 = .ok (.iload_n 1, 1) := by decide +kernel
theorem dX10_word_15 : decode cX10_word 15 = .ok (.iconst 3, 1) := by decide +kernel
theorem dX10_word_16 : decode cX10_word 16 = .ok (.if_icmp .gt 11, 3) := by decide +kernel
theorem dX10_word_19 : decode cX10_word 19 = .ok (.aload_n 0, 1) := by decide +kernel
theorem dX10_word_20 : decode cX10_word 20 = .ok (.iload_n 2, 1) := by decide +kernel
theorem dX10_word_21 : decode cX10_word 21 = .ok (.invokevirtual 98, 3) := by decide +kernel
theorem dX10_word_24 : decode cX10_word 24 = .ok (.ifCond .ne 6, 3) := by decide +kernel
theorem dX10_word_27 : decode cX10_word 27 = .ok (.bipush (-2), 2) := by decide +kernel
theorem dX10_word_29 : decode cX10_word 29 = .ok (.ireturn, 1) := by decide +kernel
theorem dX10_word_30 : decode cX10_word 30 = .ok (.aload_n 0, 1) := by decide +kernel
theorem dX10_word_31 : decode cX10_word 31 = .ok (.getfield 30, 3) := by decide +kernel
theorem dX10_word_34 : decode cX10_word 34 = .ok (.aload_n 0, 1) := by decide +kernel
theorem dX10_word_35 : decode cX10_word 35 = .ok (.getfield 17, 3) := by decide +kernel
theorem dX10_word_38 : decode cX10_word 38 = .ok (.iconst 0, 1) := by decide +kernel
theorem dX10_word_39 : decode cX10_word 39 = .ok (.iload_n 2, 1) := by decide +kernel
theorem dX10_word_40 : decode cX10_word 40 = .ok (.invokevirtual 102, 3) := by decide +kernel
theorem dX10_word_43 : decode cX10_word 43 = .ok (.iconst (-1), 1) := by decide +kernel
theorem dX10_word_44 : decode cX10_word 44 = .ok (.if_icmp .eq 6, 3) := by decide +kernel
theorem dX10_word_47 : decode cX10_word 47 = .ok (.bipush (-3), 2) := by decide +kernel
theorem dX10_word_49 : decode cX10_word 49 = .ok (.ireturn, 1) := by decide +kernel
theorem dX10_word_50 : decode cX10_word 50 = .ok (.aload_n 0, 1) := by decide +kernel
theorem dX10_word_51 : decode cX10_word 51 = .ok (.getfield 37, 3) := by decide +kernel
theorem dX10_word_54 : decode cX10_word 54 = .ok (.getfield 106, 3) := by decide +kernel
theorem dX10_word_57 : decode cX10_word 57 = .ok (.bipush 60, 2) := by decide +kernel
theorem dX10_word_59 : decode cX10_word 59 = .ok (.if_icmp .ge 15, 3) := by decide +kernel
theorem dX10_word_62 : decode cX10_word 62 = .ok (.aload_n 0, 1) := by decide +kernel
theorem dX10_word_63 : decode cX10_word 63 = .ok (.getfield 30, 3) := by decide +kernel
theorem dX10_word_66 : decode cX10_word 66 = .ok (.getfield 109, 3) := by decide +kernel
theorem dX10_word_69 : decode cX10_word 69 = .ok (.bipush 90, 2) := by decide +kernel
theorem dX10_word_71 : decode cX10_word 71 = .ok (.if_icmp .lt 6, 3) := by decide +kernel
theorem dX10_word_74 : decode cX10_word 74 = .ok (.bipush (-4), 2) := by decide +kernel
theorem dX10_word_76 : decode cX10_word 76 = .ok (.ireturn, 1) := by decide +kernel
theorem dX10_word_77 : decode cX10_word 77 = .ok (.aload_n 0, 1) := by decide +kernel
theorem dX10_word_78 : decode cX10_word 78 = .ok (.getfield 37, 3) := by decide +kernel
theorem dX10_word_81 : decode cX10_word 81 = .ok (.iload_n 1, 1) := by decide +kernel
theorem dX10_word_82 : decode cX10_word 82 = .ok (.invokevirtual 110, 3) := by decide +kernel
theorem dX10_word_85 : decode cX10_word 85 = .ok (.istore_n 3, 1) := by decide +kernel
theorem dX10_word_86 : decode cX10_word 86 = .ok (.aload_n 0, 1) := by decide +kernel
theorem dX10_word_87 : decode cX10_word 87 = .ok (.getfield 30, 3) := by decide +kernel
theorem dX10_word_90 : decode cX10_word 90 = .ok (.aload_n 0, 1) := by decide +kernel
theorem dX10_word_91 : decode cX10_word 91 = .ok (.getfield 17, 3) := by decide +kernel
theorem dX10_word_94 : decode cX10_word 94 = .ok (.iconst 0, 1) := by decide +kernel
theorem dX10_word_95 : decode cX10_word 95 = .ok (.iload_n 2, 1) := by decide +kernel
theorem dX10_word_96 : decode cX10_word 96 = .ok (.iload_n 3, 1) := by decide +kernel
theorem dX10_word_97 : decode cX10_word 97 = .ok (.invokevirtual 114, 3) := by decide +kernel
theorem dX10_word_100 : decode cX10_word 100 = .ok (.pop, 1) := by decide +kernel
theorem dX10_word_101 : decode cX10_word 101 = .ok (.iload_n 3, 1) := by decide +kernel
theorem dX10_word_102 : decode cX10_word 102 = .ok (.ireturn, 1) := by decide +kernel
theorem dX10_scope_0 : decode cX10_scope 0 = .ok (.aload_n 0, 1) := by decide +kernel
theorem dX10_scope_1 : decode cX10_scope 1 = .ok (.getfield 37, 3) := by decide +kernel
theorem dX10_scope_4 : decode cX10_scope 4 = .ok (.iload_n 1, 1) := by decide +kernel
theorem dX10_scope_5 : decode cX10_scope 5 = .ok (.iconst 1, 1) := by decide +kernel
theorem dX10_scope_6 : decode cX10_scope 6 = .ok (.invokevirtual 117, 3) := by decide +kernel
theorem dX10_scope_9 : decode cX10_scope 9 = .ok (.ifCond .ne 6, 3) := by decide +kernel
theorem dX10_scope_12 : decode cX10_scope 12 = .ok (.bipush (-2), 2) := by decide +kernel
theorem dX10_scope_14 : decode cX10_scope 14 = .ok (.ireturn, 1) := by decide +kernel
theorem dX10_scope_15 : decode cX10_scope 15 = .ok (.aload_n 0, 1) := by decide +kernel
theorem dX10_scope_16 : decode cX10_scope 16 = .ok (.getfield 37, 3) := by decide +kernel
theorem dX10_scope_19 : decode cX10_scope 19 = .ok (.getfield 121, 3) := by decide +kernel
theorem dX10_scope_22 : decode cX10_scope 22 = .ok (.iload_n 1, 1) := by decide +kernel
theorem dX10_scope_23 : decode cX10_scope 23 = .ok (.baload, 1) := by decide +kernel
theorem dX10_scope_24 : decode cX10_scope 24 = .ok (.ifCond .eq 7, 3) := by decide +kernel
theorem dX10_scope_27 : decode cX10_scope 27 = .ok (.iconst 1, 1) := by decide +kernel
theorem dX10_scope_28 : decode cX10_scope 28 = .ok (.goto 4, 3) := by decide +kernel
theorem dX10_scope_31 : decode cX10_scope 31 = .ok (.iconst 0, 1) := by decide +kernel
theorem dX10_scope_32 : decode cX10_scope 32 = .ok (.istore_n 3, 1) := by decide +kernel
theorem dX10_scope_33 : decode cX10_scope 33 = .ok (.aload_n 0, 1) := by decide +kernel
theorem dX10_scope_34 : decode cX10_scope 34 = .ok (.getfield 37, 3) := by decide +kernel
theorem dX10_scope_37 : decode cX10_scope 37 = .ok (.getfield 121, 3) := by decide +kernel
theorem dX10_scope_40 : decode cX10_scope 40 = .ok (.iload_n 1, 1) := by decide +kernel
theorem dX10_scope_41 : decode cX10_scope 41 = .ok (.iload_n 2, 1) := by decide +kernel
theorem dX10_scope_42 : decode cX10_scope 42 = .ok (.bastore, 1) := by decide +kernel
theorem dX10_scope_43 : decode cX10_scope 43 = .ok (.iload_n 3, 1) := by decide +kernel
theorem dX10_scope_44 : decode cX10_scope 44 = .ok (.ireturn, 1) := by decide +kernel
theorem dX10_classes_0 : decode cX10_classes 0 = .ok (.aload_n 0, 1) := by decide +kernel
theorem dX10_classes_1 : decode cX10_classes 1 = .ok (.getfield 37, 3) := by decide +kernel
theorem dX10_classes_4 : decode cX10_classes 4 = .ok (.iload_n 1, 1) := by decide +kernel
theorem dX10_classes_5 : decode cX10_classes 5 = .ok (.iconst 1, 1) := by decide +kernel
theorem dX10_classes_6 : decode cX10_classes 6 = .ok (.invokevirtual 117, 3) := by decide +kernel
theorem dX10_classes_9 : decode cX10_classes 9 = .ok (.ifCond .eq 14, 3) := by decide +kernel
theorem dX10_classes_12 : decode cX10_classes 12 = .ok (.iload_n 2, 1) := by decide +kernel
theorem dX10_classes_13 : decode cX10_classes 13 = .ok (.ifCond .lt 10, 3) := by decide +kernel
theorem dX10_classes_16 : decode cX10_classes 16 = .ok (.iload_n 2, 1) := by decide +kernel
theorem dX10_classes_17 : decode cX10_classes 17 = .ok (.sipush 255, 3) := by decide +kernel
theorem dX10_classes_20 : decode cX10_classes 20 = .ok (.if_icmp .le 6, 3) := by decide +kernel
theorem dX10_classes_23 : decode cX10_classes 23 = .ok (.bipush (-2), 2) := by decide +kernel
theorem dX10_classes_25 : decode cX10_classes 25 = .ok (.ireturn, 1) := by decide +kernel
theorem dX10_classes_26 : decode cX10_classes 26 = .ok (.aload_n 0, 1) := by decide +kernel
theorem dX10_classes_27 : decode cX10_classes 27 = .ok (.getfield 37, 3) := by decide +kernel
theorem dX10_classes_30 : decode cX10_classes 30 = .ok (.getfield 125, 3) := by decide +kernel
theorem dX10_classes_33 : decode cX10_classes 33 = .ok (.iload_n 1, 1) := by decide +kernel
theorem dX10_classes_34 : decode cX10_classes 34 = .ok (.iaload, 1) := by decide +kernel
theorem dX10_classes_35 : decode cX10_classes 35 = .ok (.istore_n 3, 1) := by decide +kernel
theorem dX10_classes_36 : decode cX10_classes 36 = .ok (.aload_n 0, 1) := by decide +kernel
theorem dX10_classes_37 : decode cX10_classes 37 = .ok (.getfield 37, 3) := by decide +kernel
theorem dX10_classes_40 : decode cX10_classes 40 = .ok (.getfield 125, 3) := by decide +kernel
theorem dX10_classes_43 : decode cX10_classes 43 = .ok (.iload_n 1, 1) := by decide +kernel
theorem dX10_classes_44 : decode cX10_classes 44 = .ok (.iload_n 2, 1) := by decide +kernel
theorem dX10_classes_45 : decode cX10_classes 45 = .ok (.iastore, 1) := by decide +kernel
theorem dX10_classes_46 : decode cX10_classes 46 = .ok (.iload_n 3, 1) := by decide +kernel
theorem dX10_classes_47 : decode cX10_classes 47 = .ok (.ireturn, 1) := by decide +kernel
theorem dX10_danger_0 : decode cX10_danger 0 = .ok (.aload_n 0, 1) := by decide +kernel
theorem dX10_danger_1 : decode cX10_danger 1 = .ok (.getfield 37, 3) := by decide +kernel
theorem dX10_danger_4 : decode cX10_danger 4 = .ok (.iload_n 1, 1) := by decide +kernel
theorem dX10_danger_5 : decode cX10_danger 5 = .ok (.iconst 0, 1) := by decide +kernel
theorem dX10_danger_6 : decode cX10_danger 6 = .ok (.invokevirtual 117, 3) := by decide +kernel
theorem dX10_danger_9 : decode cX10_danger 9 = .ok (.ifCond .ne 6, 3) := by decide +kernel
theorem dX10_danger_12 : decode cX10_danger 12 = .ok (.bipush (-2), 2) := by decide +kernel
theorem dX10_danger_14 : decode cX10_danger 14 = .ok (.ireturn, 1) := by decide +kernel
theorem dX10_danger_15 : decode cX10_danger 15 = .ok (.aload_n 0, 1) := by decide +kernel
theorem dX10_danger_16 : decode cX10_danger 16 = .ok (.getfield 37, 3) := by decide +kernel
theorem dX10_danger_19 : decode cX10_danger 19 = .ok (.getfield 128, 3) := by decide +kernel
theorem dX10_danger_22 : decode cX10_danger 22 = .ok (.iload_n 1, 1) := by decide +kernel
theorem dX10_danger_23 : decode cX10_danger 23 = .ok (.baload, 1) := by decide +kernel
theorem dX10_danger_24 : decode cX10_danger 24 = .ok (.ifCond .eq 7, 3) := by decide +kernel
theorem dX10_danger_27 : decode cX10_danger 27 = .ok (.iconst 1, 1) := by decide +kernel
theorem dX10_danger_28 : decode cX10_danger 28 = .ok (.goto 4, 3) := by decide +kernel
theorem dX10_danger_31 : decode cX10_danger 31 = .ok (.iconst 0, 1) := by decide +kernel
theorem dX10_danger_32 : decode cX10_danger 32 = .ok (.istore_n 3, 1) := by decide +kernel
theorem dX10_danger_33 : decode cX10_danger 33 = .ok (.aload_n 0, 1) := by decide +kernel
theorem dX10_danger_34 : decode cX10_danger 34 = .ok (.getfield 37, 3) := by decide +kernel
theorem dX10_danger_37 : decode cX10_danger 37 = .ok (.getfield 128, 3) := by decide +kernel
theorem dX10_danger_40 : decode cX10_danger 40 = .ok (.iload_n 1, 1) := by decide +kernel
theorem dX10_danger_41 : decode cX10_danger 41 = .ok (.iload_n 2, 1) := by decide +kernel
theorem dX10_danger_42 : decode cX10_danger 42 = .ok (.bastore, 1) := by decide +kernel
theorem dX10_danger_43 : decode cX10_danger 43 = .ok (.iload_n 3, 1) := by decide +kernel
theorem dX10_danger_44 : decode cX10_danger 44 = .ok (.ireturn, 1) := by decide +kernel
theorem dX10_rule_0 : decode cX10_rule 0 = .ok (.aload_n 0, 1) := by decide +kernel
theorem dX10_rule_1 : decode cX10_rule 1 = .ok (.getfield 37, 3) := by decide +kernel
theorem dX10_rule_4 : decode cX10_rule 4 = .ok (.iload_n 1, 1) := by decide +kernel
theorem dX10_rule_5 : decode cX10_rule 5 = .ok (.iconst 0, 1) := by decide +kernel
theorem dX10_rule_6 : decode cX10_rule 6 = .ok (.invokevirtual 117, 3) := by decide +kernel
theorem dX10_rule_9 : decode cX10_rule 9 = .ok (.ifCond .ne 6, 3) := by decide +kernel
theorem dX10_rule_12 : decode cX10_rule 12 = .ok (.bipush (-2), 2) := by decide +kernel
theorem dX10_rule_14 : decode cX10_rule 14 = .ok (.ireturn, 1) := by decide +kernel
theorem dX10_rule_15 : decode cX10_rule 15 = .ok (.aload_n 0, 1) := by decide +kernel
theorem dX10_rule_16 : decode cX10_rule 16 = .ok (.getfield 44, 3) := by decide +kernel
theorem dX10_rule_19 : decode cX10_rule 19 = .ok (.getfield 131, 3) := by decide +kernel
theorem dX10_rule_22 : decode cX10_rule 22 = .ok (.bipush 40, 2) := by decide +kernel
theorem dX10_rule_24 : decode cX10_rule 24 = .ok (.if_icmp .lt 6, 3) := by decide +kernel
theorem dX10_rule_27 : decode cX10_rule 27 = .ok (.bipush (-4), 2) := by decide +kernel
theorem dX10_rule_29 : decode cX10_rule 29 = .ok (.ireturn, 1) := by decide +kernel
theorem dX10_rule_30 : decode cX10_rule 30 = .ok (.aload_n 0, 1) := by decide +kernel
theorem dX10_rule_31 : decode cX10_rule 31 = .ok (.getfield 44, 3) := by decide +kernel
theorem dX10_rule_34 : decode cX10_rule 34 = .ok (.iload_n 1, 1) := by decide +kernel
theorem dX10_rule_35 : decode cX10_rule 35 = .ok (.invokevirtual 132, 3) := by decide +kernel
theorem dX10_rule_38 : decode cX10_rule 38 = .ok (.ireturn, 1) := by decide +kernel
theorem dX10_token_0 : decode cX10_token 0 = .ok (.aload_n 0, 1) := by decide +kernel
theorem dX10_token_1 : decode cX10_token 1 = .ok (.getfield 37, 3) := by decide +kernel
theorem dX10_token_4 : decode cX10_token 4 = .ok (.iload_n 2, 1) := by decide +kernel
theorem dX10_token_5 : decode cX10_token 5 = .ok (.iconst 2, 1) := by decide +kernel
theorem dX10_token_6 : decode cX10_token 6 = .ok (.invokevirtual 117, 3) := by decide +kernel
theorem dX10_token_9 : decode cX10_token 9 = .ok (.ifCond .ne 14, 3) := by decide +kernel
theorem dX10_token_12 : decode cX10_token 12 = .ok (.iload_n 2, 1) := by decide +kernel
theorem dX10_token_13 : decode cX10_token 13 = .ok (.iconst (-1), 1) := by decide +kernel
theorem dX10_token_14 : decode cX10_token 14 = .ok (.if_icmp .gt 13, 3) := by decide +kernel
theorem dX10_token_17 : decode cX10_token 17 = .ok (.iload_n 2, 1) := by decide +kernel
theorem dX10_token_18 : decode cX10_token 18 = .ok (.bipush (-9), 2) := by decide +kernel
theorem dX10_token_20 : decode cX10_token 20 = .ok (.if_icmp .lt 7, 3) := by decide +kernel
theorem dX10_token_23 : decode cX10_token 23 = .ok (.iconst 1, 1) := by decide +kernel
theorem dX10_token_24 : decode cX10_token 24 = .ok (.goto 4, 3) := by decide +kernel
theorem dX10_token_27 : decode cX10_token 27 = .ok (.iconst 0, 1) := by decide +kernel
theorem dX10_token_28 : decode cX10_token 28 = .ok (.istore_n 3, 1) := by decide +kernel
theorem dX10_token_29 : decode cX10_token 29 = .ok (.iload_n 1, 1) := by decide +kernel
theorem dX10_token_30 : decode cX10_token 30 = .ok (.ifCond .lt 18, 3) := by decide +kernel
theorem dX10_token_33 : decode cX10_token 33 = .ok (.iload_n 1, 1) := by decide +kernel
theorem dX10_token_34 : decode cX10_token 34 = .ok (.aload_n 0, 1) := by decide +kernel
theorem dX10_token_35 : decode cX10_token 35 = .ok (.getfield 44, 3) := by decide +kernel
theorem dX10_token_38 : decode cX10_token 38 = .ok (.getfield 131, 3) := by decide +kernel
theorem dX10_token_41 : decode cX10_token 41 = .ok (.if_icmp .ge 7, 3) := by decide +kernel
theorem dX10_token_44 : decode cX10_token 44 = .ok (.iload_n 3, 1) := by decide +kernel
theorem dX10_token_45 : decode cX10_token 45 = .ok (.ifCond .ne 6, 3) := by decide +kernel
theorem dX10_token_48 : decode cX10_token 48 = .ok (.bipush (-2), 2) := by decide +kernel
theorem dX10_token_50 : decode cX10_token 50 = .ok (.ireturn, 1) := by decide +kernel
theorem dX10_token_51 : decode cX10_token 51 = .ok (.aload_n 0, 1) := by decide +kernel
theorem dX10_token_52 : decode cX10_token 52 = .ok (.getfield 44, 3) := by decide +kernel
theorem dX10_token_55 : decode cX10_token 55 = .ok (.getfield 133, 3) := by decide +kernel
theorem dX10_token_58 : decode cX10_token 58 = .ok (.iload_n 1, 1) := by decide +kernel
theorem dX10_token_59 : decode cX10_token 59 = .ok (.iaload, 1) := by decide +kernel
theorem dX10_token_60 : decode cX10_token 60 = .ok (.iconst 4, 1) := by decide +kernel
theorem dX10_token_61 : decode cX10_token 61 = .ok (.if_icmp .lt 6, 3) := by decide +kernel
theorem dX10_token_64 : decode cX10_token 64 = .ok (.bipush (-4), 2) := by decide +kernel
theorem dX10_token_66 : decode cX10_token 66 = .ok (.ireturn, 1) := by decide +kernel
theorem dX10_token_67 : decode cX10_token 67 = .ok (.aload_n 0, 1) := by decide +kernel
theorem dX10_token_68 : decode cX10_token 68 = .ok (.getfield 44, 3) := by decide +kernel
theorem dX10_token_71 : decode cX10_token 71 = .ok (.iload_n 1, 1) := by decide +kernel
theorem dX10_token_72 : decode cX10_token 72 = .ok (.iload_n 2, 1) := by decide +kernel
theorem dX10_token_73 : decode cX10_token 73 = .ok (.invokevirtual 136, 3) := by decide +kernel
theorem dX10_token_76 : decode cX10_token 76 = .ok (.ireturn, 1) := by decide +kernel
theorem dX10_setting_0 : decode cX10_setting 0 = .ok (.iload_n 1, 1) := by decide +kernel
theorem dX10_setting_1 : decode cX10_setting 1 = .ok (.ifCond .lt 11, 3) := by decide +kernel
theorem dX10_setting_4 : decode cX10_setting 4 = .ok (.iload_n 1, 1) := by decide +kernel
theorem dX10_setting_5 : decode cX10_setting 5 = .ok (.getstatic 140, 3) := by decide +kernel
theorem dX10_setting_8 : decode cX10_setting 8 = .ok (.arraylength, 1) := by decide +kernel
theorem dX10_setting_9 : decode cX10_setting 9 = .ok (.if_icmp .lt 6, 3) := by decide +kernel
theorem dX10_setting_12 : decode cX10_setting 12 = .ok (.bipush (-2), 2) := by decide +kernel
theorem dX10_setting_14 : decode cX10_setting 14 = .ok (.ireturn, 1) := by decide +kernel
theorem dX10_setting_15 : decode cX10_setting 15 = .ok (.iload_n 2, 1) := by decide +kernel
theorem dX10_setting_16 : decode cX10_setting 16 = .ok (.getstatic 143, 3) := by decide +kernel
theorem dX10_setting_19 : decode cX10_setting 19 = .ok (.iload_n 1, 1) := by decide +kernel
theorem dX10_setting_20 : decode cX10_setting 20 = .ok (.iaload, 1) := by decide +kernel
theorem dX10_setting_21 : decode cX10_setting 21 = .ok (.if_icmp .lt 12, 3) := by decide +kernel
theorem dX10_setting_24 : decode cX10_setting 24 = .ok (.iload_n 2, 1) := by decide +kernel
theorem dX10_setting_25 : decode cX10_setting 25 = .ok (.getstatic 146, 3) := by decide +kernel
theorem dX10_setting_28 : decode cX10_setting 28 = .ok (.iload_n 1, 1) := by decide +kernel
theorem dX10_setting_29 : decode cX10_setting 29 = .ok (.iaload, 1) := by decide +kernel
theorem dX10_setting_30 : decode cX10_setting 30 = .ok (.if_icmp .le 6, 3) := by decide +kernel
theorem dX10_setting_33 : decode cX10_setting 33 = .ok (.bipush (-2), 2) := by decide +kernel
theorem dX10_setting_35 : decode cX10_setting 35 = .ok (.ireturn, 1) := by decide +kernel
theorem dX10_setting_36 : decode cX10_setting 36 = .ok (.aload_n 0, 1) := by decide +kernel
theorem dX10_setting_37 : decode cX10_setting 37 = .ok (.getfield 23, 3) := by decide +kernel
theorem dX10_setting_40 : decode cX10_setting 40 = .ok (.getfield 149, 3) := by decide +kernel
theorem dX10_setting_43 : decode cX10_setting 43 = .ok (.iload_n 1, 1) := by decide +kernel
theorem dX10_setting_44 : decode cX10_setting 44 = .ok (.iaload, 1) := by decide +kernel
theorem dX10_setting_45 : decode cX10_setting 45 = .ok (.istore_n 3, 1) := by decide +kernel
theorem dX10_setting_46 : decode cX10_setting 46 = .ok (.aload_n 0, 1) := by decide +kernel
theorem dX10_setting_47 : decode cX10_setting 47 = .ok (.getfield 23, 3) := by decide +kernel
theorem dX10_setting_50 : decode cX10_setting 50 = .ok (.getfield 149, 3) := by decide +kernel
theorem dX10_setting_53 : decode cX10_setting 53 = .ok (.iload_n 1, 1) := by decide +kernel
theorem dX10_setting_54 : decode cX10_setting 54 = .ok (.iload_n 2, 1) := by decide +kernel
theorem dX10_setting_55 : decode cX10_setting 55 = .ok (.iastore, 1) := by decide +kernel
theorem dX10_setting_56 : decode cX10_setting 56 = .ok (.iload_n 3, 1) := by decide +kernel
theorem dX10_setting_57 : decode cX10_setting 57 = .ok (.ireturn, 1) := by decide +kernel
theorem dX10_near_0 : decode cX10_near 0 = .ok (.iload_n 1, 1) := by decide +kernel
theorem dX10_near_1 : decode cX10_near 1 = .ok (.ifCond .lt 24, 3) := by decide +kernel
theorem dX10_near_4 : decode cX10_near 4 = .ok (.iload_n 1, 1) := by decide +kernel
theorem dX10_near_5 : decode cX10_near 5 = .ok (.bipush 26, 2) := by decide +kernel
theorem dX10_near_7 : decode cX10_near 7 = .ok (.if_icmp .ge 18, 3) := by decide +kernel
theorem dX10_near_10 : decode cX10_near 10 = .ok (.iload_n 2, 1) := by decide +kernel
theorem dX10_near_11 : decode cX10_near 11 = .ok (.ifCond .lt 14, 3) := by decide +kernel
theorem dX10_near_14 : decode cX10_near 14 = .ok (.iload_n 2, 1) := by decide +kernel
theorem dX10_near_15 : decode cX10_near 15 = .ok (.bipush 26, 2) := by decide +kernel
theorem dX10_near_17 : decode cX10_near 17 = .ok (.if_icmp .ge 8, 3) := by decide +kernel
theorem dX10_near_20 : decode cX10_near 20 = .ok (.iload_n 1, 1) := by decide +kernel
theorem dX10_near_21 : decode cX10_near 21 = .ok (.iload_n 2, 1) := by decide +kernel
theorem dX10_near_22 : decode cX10_near 22 = .ok (.if_icmp .ne 6, 3) := by decide +kernel
theorem dX10_near_25 : decode cX10_near 25 = .ok (.bipush (-2), 2) := by decide +kernel
theorem dX10_near_27 : decode cX10_near 27 = .ok (.ireturn, 1) := by decide +kernel
theorem dX10_near_28 : decode cX10_near 28 = .ok (.aload_n 0, 1) := by decide +kernel
theorem dX10_near_29 : decode cX10_near 29 = .ok (.getfield 23, 3) := by decide +kernel
theorem dX10_near_32 : decode cX10_near 32 = .ok (.iload_n 1, 1) := by decide +kernel
theorem dX10_near_33 : decode cX10_near 33 = .ok (.iload_n 2, 1) := by decide +kernel
theorem dX10_near_34 : decode cX10_near 34 = .ok (.invokevirtual 152, 3) := by decide +kernel
theorem dX10_near_37 : decode cX10_near 37 = .ok (.ifCond .eq 7, 3) := by decide +kernel
theorem dX10_near_40 : decode cX10_near 40 = .ok (.iconst 1, 1) := by decide +kernel
theorem dX10_near_41 : decode cX10_near 41 = .ok (.goto 4, 3) := by decide +kernel
theorem dX10_near_44 : decode cX10_near 44 = .ok (.iconst 0, 1) := by decide +kernel
theorem dX10_near_45 : decode cX10_near 45 = .ok (.ireturn, 1) := by decide +kernel
theorem dX10_line_0 : decode cX10_line 0 = .ok (.aload_n 0, 1) := by decide +kernel
theorem dX10_line_1 : decode cX10_line 1 = .ok (.getfield 13, 3) := by decide +kernel
theorem dX10_line_4 : decode cX10_line 4 = .ok (.istore_n 1, 1) := by decide +kernel
theorem dX10_line_5 : decode cX10_line 5 = .ok (.aload_n 0, 1) := by decide +kernel
theorem dX10_line_6 : decode cX10_line 6 = .ok (.iconst 0, 1) := by decide +kernel
theorem dX10_line_7 : decode cX10_line 7 = .ok (.putfield 13, 3) := by decide +kernel
theorem dX10_line_10 : decode cX10_line 10 = .ok (.aload_n 0, 1) := by decide +kernel
theorem dX10_line_11 : decode cX10_line 11 = .ok (.getfield 9, 3) := by decide +kernel
theorem dX10_line_14 : decode cX10_line 14 = .ok (.iload_n 1, 1) := by decide +kernel
theorem dX10_line_15 : decode cX10_line 15 = .ok (.invokestatic 155, 3) := by decide +kernel
theorem dX10_line_18 : decode cX10_line 18 = .ok (.bipush 10, 2) := by decide +kernel
theorem dX10_line_20 : decode cX10_line 20 = .ok (.if_icmp .le 6, 3) := by decide +kernel
theorem dX10_line_23 : decode cX10_line 23 = .ok (.bipush (-4), 2) := by decide +kernel
theorem dX10_line_25 : decode cX10_line 25 = .ok (.ireturn, 1) := by decide +kernel
theorem dX10_line_26 : decode cX10_line 26 = .ok (.aload_n 0, 1) := by decide +kernel
theorem dX10_line_27 : decode cX10_line 27 = .ok (.getfield 51, 3) := by decide +kernel
theorem dX10_line_30 : decode cX10_line 30 = .ok (.aload_n 0, 1) := by decide +kernel
theorem dX10_line_31 : decode cX10_line 31 = .ok (.getfield 9, 3) := by decide +kernel
theorem dX10_line_34 : decode cX10_line 34 = .ok (.iload_n 1, 1) := by decide +kernel
theorem dX10_line_35 : decode cX10_line 35 = .ok (.invokevirtual 159, 3) := by decide +kernel
theorem dX10_line_38 : decode cX10_line 38 = .ok (.aload_n 0, 1) := by decide +kernel
theorem dX10_line_39 : decode cX10_line 39 = .ok (.getfield 51, 3) := by decide +kernel
theorem dX10_line_42 : decode cX10_line 42 = .ok (.getfield 163, 3) := by decide +kernel
theorem dX10_line_45 : decode cX10_line 45 = .ok (.ireturn, 1) := by decide +kernel
theorem dX10_at_0 : decode cX10_at 0 = .ok (.iload_n 1, 1) := by decide +kernel
theorem dX10_at_1 : decode cX10_at 1 = .ok (.ifCond .lt 14, 3) := by decide +kernel
theorem dX10_at_4 : decode cX10_at 4 = .ok (.iload_n 1, 1) := by decide +kernel
theorem dX10_at_5 : decode cX10_at 5 = .ok (.aload_n 0, 1) := by decide +kernel
theorem dX10_at_6 : decode cX10_at 6 = .ok (.getfield 51, 3) := by decide +kernel
theorem dX10_at_9 : decode cX10_at 9 = .ok (.getfield 166, 3) := by decide +kernel
theorem dX10_at_12 : decode cX10_at 12 = .ok (.if_icmp .lt 7, 3) := by decide +kernel
theorem dX10_at_15 : decode cX10_at 15 = .ok (.iconst (-1), 1) := by decide +kernel
theorem dX10_at_16 : decode cX10_at 16 = .ok (.goto 12, 3) := by decide +kernel
theorem dX10_at_19 : decode cX10_at 19 = .ok (.aload_n 0, 1) := by decide +kernel
theorem dX10_at_20 : decode cX10_at 20 = .ok (.getfield 51, 3) := by decide +kernel
theorem dX10_at_23 : decode cX10_at 23 = .ok (.getfield 167, 3) := by decide +kernel
theorem dX10_at_26 : decode cX10_at 26 = .ok (.iload_n 1, 1) := by decide +kernel
theorem dX10_at_27 : decode cX10_at 27 = .ok (.iaload, 1) := by decide +kernel
theorem dX10_at_28 : decode cX10_at 28 = .ok (.ireturn, 1) := by decide +kernel
theorem dX10_typed_0 : decode cX10_typed 0 = .ok (.iload_n 1, 1) := by decide +kernel
theorem dX10_typed_1 : decode cX10_typed 1 = .ok (.ifCond .lt 14, 3) := by decide +kernel
theorem dX10_typed_4 : decode cX10_typed 4 = .ok (.iload_n 1, 1) := by decide +kernel
theorem dX10_typed_5 : decode cX10_typed 5 = .ok (.aload_n 0, 1) := by decide +kernel
theorem dX10_typed_6 : decode cX10_typed 6 = .ok (.getfield 51, 3) := by decide +kernel
theorem dX10_typed_9 : decode cX10_typed 9 = .ok (.getfield 163, 3) := by decide +kernel
theorem dX10_typed_12 : decode cX10_typed 12 = .ok (.if_icmp .lt 6, 3) := by decide +kernel
theorem dX10_typed_15 : decode cX10_typed 15 = .ok (.bipush (-2), 2) := by decide +kernel
theorem dX10_typed_17 : decode cX10_typed 17 = .ok (.ireturn, 1) := by decide +kernel
theorem dX10_typed_18 : decode cX10_typed 18 = .ok (.iload_n 2, 1) := by decide +kernel
theorem dX10_typed_19 : decode cX10_typed 19 = .ok (.tableswitch 54 0 2 #[25, 35, 45], 25) := by decide +kernel
theorem dX10_typed_44 : decode cX10_typed 44 = .ok (.aload_n 0, 1) := by decide +kernel
theorem dX10_typed_45 : decode cX10_typed 45 = .ok (.getfield 51, 3) := by decide +kernel
theorem dX10_typed_48 : decode cX10_typed 48 = .ok (.getfield 170, 3) := by decide +kernel
theorem dX10_typed_51 : decode cX10_typed 51 = .ok (.iload_n 1, 1) := by decide +kernel
theorem dX10_typed_52 : decode cX10_typed 52 = .ok (.iaload, 1) := by decide +kernel
theorem dX10_typed_53 : decode cX10_typed 53 = .ok (.ireturn, 1) := by decide +kernel
theorem dX10_typed_54 : decode cX10_typed 54 = .ok (.aload_n 0, 1) := by decide +kernel
theorem dX10_typed_55 : decode cX10_typed 55 = .ok (.getfield 51, 3) := by decide +kernel
theorem dX10_typed_58 : decode cX10_typed 58 = .ok (.getfield 173, 3) := by decide +kernel
theorem dX10_typed_61 : decode cX10_typed 61 = .ok (.iload_n 1, 1) := by decide +kernel
theorem dX10_typed_62 : decode cX10_typed 62 = .ok (.iaload, 1) := by decide +kernel
theorem dX10_typed_63 : decode cX10_typed 63 = .ok (.ireturn, 1) := by decide +kernel
theorem dX10_typed_64 : decode cX10_typed 64 = .ok (.aload_n 0, 1) := by decide +kernel
theorem dX10_typed_65 : decode cX10_typed 65 = .ok (.getfield 60, 3) := by decide +kernel
theorem dX10_typed_68 : decode cX10_typed 68 = .ok (.iload_n 1, 1) := by decide +kernel
theorem dX10_typed_69 : decode cX10_typed 69 = .ok (.invokevirtual 174, 3) := by decide +kernel
theorem dX10_typed_72 : decode cX10_typed 72 = .ok (.ireturn, 1) := by decide +kernel
theorem dX10_typed_73 : decode cX10_typed 73 = .ok (.bipush (-2), 2) := by decide +kernel
theorem dX10_typed_75 : decode cX10_typed 75 = .ok (.ireturn, 1) := by decide +kernel
theorem dX10_look_0 : decode cX10_look 0 = .ok (.aload_n 0, 1) := by decide +kernel
theorem dX10_look_1 : decode cX10_look 1 = .ok (.getfield 60, 3) := by decide +kernel
theorem dX10_look_4 : decode cX10_look 4 = .ok (.invokevirtual 177, 3) := by decide +kernel
theorem dX10_look_7 : decode cX10_look 7 = .ok (.aload_n 0, 1) := by decide +kernel
theorem dX10_look_8 : decode cX10_look 8 = .ok (.getfield 60, 3) := by decide +kernel
theorem dX10_look_11 : decode cX10_look 11 = .ok (.getfield 180, 3) := by decide +kernel
theorem dX10_look_14 : decode cX10_look 14 = .ok (.ireturn, 1) := by decide +kernel
theorem dX10_told_0 : decode cX10_told 0 = .ok (.aload_n 0, 1) := by decide +kernel
theorem dX10_told_1 : decode cX10_told 1 = .ok (.getfield 60, 3) := by decide +kernel
theorem dX10_told_4 : decode cX10_told 4 = .ok (.invokevirtual 177, 3) := by decide +kernel
theorem dX10_told_7 : decode cX10_told 7 = .ok (.iload_n 1, 1) := by decide +kernel
theorem dX10_told_8 : decode cX10_told 8 = .ok (.tableswitch 149 0 8 #[52, 60, 68, 76, 91, 106, 121, 136, 141], 52) := by decide +kernel
theorem dX10_told_60 : decode cX10_told 60 = .ok (.aload_n 0, 1) := by decide +kernel
theorem dX10_told_61 : decode cX10_told 61 = .ok (.getfield 60, 3) := by decide +kernel
theorem dX10_told_64 : decode cX10_told 64 = .ok (.getfield 183, 3) := by decide +kernel
theorem dX10_told_67 : decode cX10_told 67 = .ok (.ireturn, 1) := by decide +kernel
theorem dX10_told_68 : decode cX10_told 68 = .ok (.aload_n 0, 1) := by decide +kernel
theorem dX10_told_69 : decode cX10_told 69 = .ok (.getfield 60, 3) := by decide +kernel
theorem dX10_told_72 : decode cX10_told 72 = .ok (.getfield 184, 3) := by decide +kernel
theorem dX10_told_75 : decode cX10_told 75 = .ok (.ireturn, 1) := by decide +kernel
theorem dX10_told_76 : decode cX10_told 76 = .ok (.aload_n 0, 1) := by decide +kernel
theorem dX10_told_77 : decode cX10_told 77 = .ok (.getfield 60, 3) := by decide +kernel
theorem dX10_told_80 : decode cX10_told 80 = .ok (.getfield 187, 3) := by decide +kernel
theorem dX10_told_83 : decode cX10_told 83 = .ok (.ireturn, 1) := by decide +kernel
theorem dX10_told_84 : decode cX10_told 84 = .ok (.aload_n 0, 1) := by decide +kernel
theorem dX10_told_85 : decode cX10_told 85 = .ok (.getfield 74, 3) := by decide +kernel
theorem dX10_told_88 : decode cX10_told 88 = .ok (.invokevirtual 190, 3) := by decide +kernel
theorem dX10_told_91 : decode cX10_told 91 = .ok (.aload_n 0, 1) := by decide +kernel
theorem dX10_told_92 : decode cX10_told 92 = .ok (.getfield 74, 3) := by decide +kernel
theorem dX10_told_95 : decode cX10_told 95 = .ok (.getfield 191, 3) := by decide +kernel
theorem dX10_told_98 : decode cX10_told 98 = .ok (.ireturn, 1) := by decide +kernel
theorem dX10_told_99 : decode cX10_told 99 = .ok (.aload_n 0, 1) := by decide +kernel
theorem dX10_told_100 : decode cX10_told 100 = .ok (.getfield 83, 3) := by decide +kernel
theorem dX10_told_103 : decode cX10_told 103 = .ok (.invokevirtual 192, 3) := by decide +kernel
theorem dX10_told_106 : decode cX10_told 106 = .ok (.aload_n 0, 1) := by decide +kernel
theorem dX10_told_107 : decode cX10_told 107 = .ok (.getfield 83, 3) := by decide +kernel
theorem dX10_told_110 : decode cX10_told 110 = .ok (.getfield 193, 3) := by decide +kernel
theorem dX10_told_113 : decode cX10_told 113 = .ok (.ireturn, 1) := by decide +kernel
theorem dX10_told_114 : decode cX10_told 114 = .ok (.aload_n 0, 1) := by decide +kernel
theorem dX10_told_115 : decode cX10_told 115 = .ok (.getfield 83, 3) := by decide +kernel
theorem dX10_told_118 : decode cX10_told 118 = .ok (.invokevirtual 192, 3) := by decide +kernel
theorem dX10_told_121 : decode cX10_told 121 = .ok (.aload_n 0, 1) := by decide +kernel
theorem dX10_told_122 : decode cX10_told 122 = .ok (.getfield 83, 3) := by decide +kernel
theorem dX10_told_125 : decode cX10_told 125 = .ok (.getfield 194, 3) := by decide +kernel
theorem dX10_told_128 : decode cX10_told 128 = .ok (.ireturn, 1) := by decide +kernel
theorem dX10_told_129 : decode cX10_told 129 = .ok (.aload_n 0, 1) := by decide +kernel
theorem dX10_told_130 : decode cX10_told 130 = .ok (.getfield 83, 3) := by decide +kernel
theorem dX10_told_133 : decode cX10_told 133 = .ok (.invokevirtual 192, 3) := by decide +kernel
theorem dX10_told_136 : decode cX10_told 136 = .ok (.aload_n 0, 1) := by decide +kernel
theorem dX10_told_137 : decode cX10_told 137 = .ok (.getfield 83, 3) := by decide +kernel
theorem dX10_told_140 : decode cX10_told 140 = .ok (.getfield 197, 3) := by decide +kernel
theorem dX10_told_143 : decode cX10_told 143 = .ok (.ireturn, 1) := by decide +kernel
theorem dX10_told_144 : decode cX10_told 144 = .ok (.aload_n 0, 1) := by decide +kernel
theorem dX10_told_145 : decode cX10_told 145 = .ok (.invokevirtual 200, 3) := by decide +kernel
theorem dX10_told_148 : decode cX10_told 148 = .ok (.ireturn, 1) := by decide +kernel
theorem dX10_told_149 : decode cX10_told 149 = .ok (.aload_n 0, 1) := by decide +kernel
theorem dX10_told_150 : decode cX10_told 150 = .ok (.getfield 51, 3) := by decide +kernel
theorem dX10_told_153 : decode cX10_told 153 = .ok (.getfield 204, 3) := by decide +kernel
theorem dX10_told_156 : decode cX10_told 156 = .ok (.ireturn, 1) := by decide +kernel
theorem dX10_told_157 : decode cX10_told 157 = .ok (.bipush (-2), 2) := by decide +kernel
theorem dX10_told_159 : decode cX10_told 159 = .ok (.ireturn, 1) := by decide +kernel
theorem dX10_proposal_0 : decode cX10_proposal 0 = .ok (.aload_n 0, 1) := by decide +kernel
theorem dX10_proposal_1 : decode cX10_proposal 1 = .ok (.getfield 60, 3) := by decide +kernel
theorem dX10_proposal_4 : decode cX10_proposal 4 = .ok (.invokevirtual 177, 3) := by decide +kernel
theorem dX10_proposal_7 : decode cX10_proposal 7 = .ok (.aload_n 0, 1) := by decide +kernel
theorem dX10_proposal_8 : decode cX10_proposal 8 = .ok (.getfield 74, 3) := by decide +kernel
theorem dX10_proposal_11 : decode cX10_proposal 11 = .ok (.invokevirtual 190, 3) := by decide +kernel
theorem dX10_proposal_14 : decode cX10_proposal 14 = .ok (.iload_n 1, 1) := by decide +kernel
theorem dX10_proposal_15 : decode cX10_proposal 15 = .ok (.ifCond .lt 14, 3) := by decide +kernel
theorem dX10_proposal_18 : decode cX10_proposal 18 = .ok (.iload_n 1, 1) := by decide +kernel
theorem dX10_proposal_19 : decode cX10_proposal 19 = .ok (.aload_n 0, 1) := by decide +kernel
theorem dX10_proposal_20 : decode cX10_proposal 20 = .ok (.getfield 74, 3) := by decide +kernel
theorem dX10_proposal_23 : decode cX10_proposal 23 = .ok (.getfield 191, 3) := by decide +kernel
theorem dX10_proposal_26 : decode cX10_proposal 26 = .ok (.if_icmp .lt 6, 3) := by decide +kernel
theorem dX10_proposal_29 : decode cX10_proposal 29 = .ok (.bipush (-2), 2) := by decide +kernel
theorem dX10_proposal_31 : decode cX10_proposal 31 = .ok (.ireturn, 1) := by decide +kernel
theorem dX10_proposal_32 : decode cX10_proposal 32 = .ok (.iload_n 2, 1) := by decide +kernel
theorem dX10_proposal_33 : decode cX10_proposal 33 = .ok (.tableswitch 65 0 2 #[27, 37, 47], 27) := by decide +kernel
theorem dX10_proposal_60 : decode cX10_proposal 60 = .ok (.aload_n 0, 1) := by decide +kernel
theorem dX10_proposal_61 : decode cX10_proposal 61 = .ok (.getfield 74, 3) := by decide +kernel
theorem dX10_proposal_64 : decode cX10_proposal 64 = .ok (.getfield 207, 3) := by decide +kernel
theorem dX10_proposal_67 : decode cX10_proposal 67 = .ok (.iload_n 1, 1) := by decide +kernel
theorem dX10_proposal_68 : decode cX10_proposal 68 = .ok (.iaload, 1) := by decide +kernel
theorem dX10_proposal_69 : decode cX10_proposal 69 = .ok (.ireturn, 1) := by decide +kernel
theorem dX10_proposal_70 : decode cX10_proposal 70 = .ok (.aload_n 0, 1) := by decide +kernel
theorem dX10_proposal_71 : decode cX10_proposal 71 = .ok (.getfield 74, 3) := by decide +kernel
theorem dX10_proposal_74 : decode cX10_proposal 74 = .ok (.getfield 210, 3) := by decide +kernel
theorem dX10_proposal_77 : decode cX10_proposal 77 = .ok (.iload_n 1, 1) := by decide +kernel
theorem dX10_proposal_78 : decode cX10_proposal 78 = .ok (.iaload, 1) := by decide +kernel
theorem dX10_proposal_79 : decode cX10_proposal 79 = .ok (.ireturn, 1) := by decide +kernel
theorem dX10_proposal_80 : decode cX10_proposal 80 = .ok (.aload_n 0, 1) := by decide +kernel
theorem dX10_proposal_81 : decode cX10_proposal 81 = .ok (.getfield 74, 3) := by decide +kernel
theorem dX10_proposal_84 : decode cX10_proposal 84 = .ok (.getfield 213, 3) := by decide +kernel
theorem dX10_proposal_87 : decode cX10_proposal 87 = .ok (.iload_n 1, 1) := by decide +kernel
theorem dX10_proposal_88 : decode cX10_proposal 88 = .ok (.baload, 1) := by decide +kernel
theorem dX10_proposal_89 : decode cX10_proposal 89 = .ok (.ifCond .eq 7, 3) := by decide +kernel
theorem dX10_proposal_92 : decode cX10_proposal 92 = .ok (.iconst 1, 1) := by decide +kernel
theorem dX10_proposal_93 : decode cX10_proposal 93 = .ok (.goto 4, 3) := by decide +kernel
theorem dX10_proposal_96 : decode cX10_proposal 96 = .ok (.iconst 0, 1) := by decide +kernel
theorem dX10_proposal_97 : decode cX10_proposal 97 = .ok (.ireturn, 1) := by decide +kernel
theorem dX10_proposal_98 : decode cX10_proposal 98 = .ok (.bipush (-2), 2) := by decide +kernel
theorem dX10_proposal_100 : decode cX10_proposal 100 = .ok (.ireturn, 1) := by decide +kernel
theorem dX10_fix_0 : decode cX10_fix 0 = .ok (.aload_n 0, 1) := by decide +kernel
theorem dX10_fix_1 : decode cX10_fix 1 = .ok (.getfield 60, 3) := by decide +kernel
theorem dX10_fix_4 : decode cX10_fix 4 = .ok (.invokevirtual 177, 3) := by decide +kernel
theorem dX10_fix_7 : decode cX10_fix 7 = .ok (.aload_n 0, 1) := by decide +kernel
theorem dX10_fix_8 : decode cX10_fix 8 = .ok (.getfield 60, 3) := by decide +kernel
theorem dX10_fix_11 : decode cX10_fix 11 = .ok (.getfield 180, 3) := by decide +kernel
theorem dX10_fix_14 : decode cX10_fix 14 = .ok (.iconst 3, 1) := by decide +kernel
theorem dX10_fix_15 : decode cX10_fix 15 = .ok (.if_icmp .eq 6, 3) := by decide +kernel
theorem dX10_fix_18 : decode cX10_fix 18 = .ok (.bipush (-3), 2) := by decide +kernel
theorem dX10_fix_20 : decode cX10_fix 20 = .ok (.ireturn, 1) := by decide +kernel
theorem dX10_fix_21 : decode cX10_fix 21 = .ok (.aload_n 0, 1) := by decide +kernel
theorem dX10_fix_22 : decode cX10_fix 22 = .ok (.getfield 74, 3) := by decide +kernel
theorem dX10_fix_25 : decode cX10_fix 25 = .ok (.invokevirtual 190, 3) := by decide +kernel
theorem dX10_fix_28 : decode cX10_fix 28 = .ok (.aload_n 0, 1) := by decide +kernel
theorem dX10_fix_29 : decode cX10_fix 29 = .ok (.getfield 74, 3) := by decide +kernel
theorem dX10_fix_32 : decode cX10_fix 32 = .ok (.getfield 191, 3) := by decide +kernel
theorem dX10_fix_35 : decode cX10_fix 35 = .ok (.ifCond .ne 5, 3) := by decide +kernel
theorem dX10_fix_38 : decode cX10_fix 38 = .ok (.iconst 0, 1) := by decide +kernel
theorem dX10_fix_39 : decode cX10_fix 39 = .ok (.ireturn, 1) := by decide +kernel
theorem dX10_fix_40 : decode cX10_fix 40 = .ok (.aload_n 0, 1) := by decide +kernel
theorem dX10_fix_41 : decode cX10_fix 41 = .ok (.invokevirtual 216, 3) := by decide +kernel
theorem dX10_fix_44 : decode cX10_fix 44 = .ok (.ifCond .ne 5, 3) := by decide +kernel
theorem dX10_fix_47 : decode cX10_fix 47 = .ok (.iconst 2, 1) := by decide +kernel
theorem dX10_fix_48 : decode cX10_fix 48 = .ok (.ireturn, 1) := by decide +kernel
theorem dX10_fix_49 : decode cX10_fix 49 = .ok (.aload_n 0, 1) := by decide +kernel
theorem dX10_fix_50 : decode cX10_fix 50 = .ok (.getfield 60, 3) := by decide +kernel
theorem dX10_fix_53 : decode cX10_fix 53 = .ok (.getfield 184, 3) := by decide +kernel
theorem dX10_fix_56 : decode cX10_fix 56 = .ok (.istore_n 1, 1) := by decide +kernel
theorem dX10_fix_57 : decode cX10_fix 57 = .ok (.aload_n 0, 1) := by decide +kernel
theorem dX10_fix_58 : decode cX10_fix 58 = .ok (.iconst 0, 1) := by decide +kernel
theorem dX10_fix_59 : decode cX10_fix 59 = .ok (.invokevirtual 220, 3) := by decide +kernel
theorem dX10_fix_62 : decode cX10_fix 62 = .ok (.aload_n 0, 1) := by decide +kernel
theorem dX10_fix_63 : decode cX10_fix 63 = .ok (.getfield 51, 3) := by decide +kernel
theorem dX10_fix_66 : decode cX10_fix 66 = .ok (.iload_n 1, 1) := by decide +kernel
theorem dX10_fix_67 : decode cX10_fix 67 = .ok (.putfield 204, 3) := by decide +kernel
theorem dX10_fix_70 : decode cX10_fix 70 = .ok (.iconst 1, 1) := by decide +kernel
theorem dX10_fix_71 : decode cX10_fix 71 = .ok (.ireturn, 1) := by decide +kernel
theorem dX10_choose_0 : decode cX10_choose 0 = .ok (.aload_n 0, 1) := by decide +kernel
theorem dX10_choose_1 : decode cX10_choose 1 = .ok (.getfield 60, 3) := by decide +kernel
theorem dX10_choose_4 : decode cX10_choose 4 = .ok (.invokevirtual 177, 3) := by decide +kernel
theorem dX10_choose_7 : decode cX10_choose 7 = .ok (.aload_n 0, 1) := by decide +kernel
theorem dX10_choose_8 : decode cX10_choose 8 = .ok (.getfield 74, 3) := by decide +kernel
theorem dX10_choose_11 : decode cX10_choose 11 = .ok (.invokevirtual 190, 3) := by decide +kernel
theorem dX10_choose_14 : decode cX10_choose 14 = .ok (.iload_n 1, 1) := by decide +kernel
theorem dX10_choose_15 : decode cX10_choose 15 = .ok (.ifCond .lt 14, 3) := by decide +kernel
theorem dX10_choose_18 : decode cX10_choose 18 = .ok (.iload_n 1, 1) := by decide +kernel
theorem dX10_choose_19 : decode cX10_choose 19 = .ok (.aload_n 0, 1) := by decide +kernel
theorem dX10_choose_20 : decode cX10_choose 20 = .ok (.getfield 74, 3) := by decide +kernel
theorem dX10_choose_23 : decode cX10_choose 23 = .ok (.getfield 191, 3) := by decide +kernel
theorem dX10_choose_26 : decode cX10_choose 26 = .ok (.if_icmp .lt 6, 3) := by decide +kernel
theorem dX10_choose_29 : decode cX10_choose 29 = .ok (.bipush (-2), 2) := by decide +kernel
theorem dX10_choose_31 : decode cX10_choose 31 = .ok (.ireturn, 1) := by decide +kernel
theorem dX10_choose_32 : decode cX10_choose 32 = .ok (.aload_n 0, 1) := by decide +kernel
theorem dX10_choose_33 : decode cX10_choose 33 = .ok (.iload_n 1, 1) := by decide +kernel
theorem dX10_choose_34 : decode cX10_choose 34 = .ok (.invokevirtual 220, 3) := by decide +kernel
theorem dX10_choose_37 : decode cX10_choose 37 = .ok (.aload_n 0, 1) := by decide +kernel
theorem dX10_choose_38 : decode cX10_choose 38 = .ok (.getfield 51, 3) := by decide +kernel
theorem dX10_choose_41 : decode cX10_choose 41 = .ok (.iconst (-1), 1) := by decide +kernel
theorem dX10_choose_42 : decode cX10_choose 42 = .ok (.putfield 204, 3) := by decide +kernel
theorem dX10_choose_45 : decode cX10_choose 45 = .ok (.aload_n 0, 1) := by decide +kernel
theorem dX10_choose_46 : decode cX10_choose 46 = .ok (.getfield 60, 3) := by decide +kernel
theorem dX10_choose_49 : decode cX10_choose 49 = .ok (.invokevirtual 177, 3) := by decide +kernel
theorem dX10_choose_52 : decode cX10_choose 52 = .ok (.aload_n 0, 1) := by decide +kernel
theorem dX10_choose_53 : decode cX10_choose 53 = .ok (.getfield 60, 3) := by decide +kernel
theorem dX10_choose_56 : decode cX10_choose 56 = .ok (.getfield 180, 3) := by decide +kernel
theorem dX10_choose_59 : decode cX10_choose 59 = .ok (.ireturn, 1) := by decide +kernel
theorem dX10_missing_0 : decode cX10_missing 0 = .ok (.aload_n 0, 1) := by decide +kernel
theorem dX10_missing_1 : decode cX10_missing 1 = .ok (.getfield 60, 3) := by decide +kernel
theorem dX10_missing_4 : decode cX10_missing 4 = .ok (.invokevirtual 177, 3) := by decide +kernel
theorem dX10_missing_7 : decode cX10_missing 7 = .ok (.aload_n 0, 1) := by decide +kernel
theorem dX10_missing_8 : decode cX10_missing 8 = .ok (.getfield 83, 3) := by decide +kernel
theorem dX10_missing_11 : decode cX10_missing 11 = .ok (.invokevirtual 192, 3) := by decide +kernel
theorem dX10_missing_14 : decode cX10_missing 14 = .ok (.iload_n 1, 1) := by decide +kernel
theorem dX10_missing_15 : decode cX10_missing 15 = .ok (.ifCond .lt 14, 3) := by decide +kernel
theorem dX10_missing_18 : decode cX10_missing 18 = .ok (.iload_n 1, 1) := by decide +kernel
theorem dX10_missing_19 : decode cX10_missing 19 = .ok (.aload_n 0, 1) := by decide +kernel
theorem dX10_missing_20 : decode cX10_missing 20 = .ok (.getfield 83, 3) := by decide +kernel
theorem dX10_missing_23 : decode cX10_missing 23 = .ok (.getfield 194, 3) := by decide +kernel
theorem dX10_missing_26 : decode cX10_missing 26 = .ok (.if_icmp .lt 8, 3) := by decide +kernel
theorem dX10_missing_29 : decode cX10_missing 29 = .ok (.bipush (-2), 2) := by decide +kernel
theorem dX10_missing_31 : decode cX10_missing 31 = .ok (.goto 12, 3) := by decide +kernel
theorem dX10_missing_34 : decode cX10_missing 34 = .ok (.aload_n 0, 1) := by decide +kernel
theorem dX10_missing_35 : decode cX10_missing 35 = .ok (.getfield 83, 3) := by decide +kernel
theorem dX10_missing_38 : decode cX10_missing 38 = .ok (.getfield 224, 3) := by decide +kernel
theorem dX10_missing_41 : decode cX10_missing 41 = .ok (.iload_n 1, 1) := by decide +kernel
theorem dX10_missing_42 : decode cX10_missing 42 = .ok (.iaload, 1) := by decide +kernel
theorem dX10_missing_43 : decode cX10_missing 43 = .ok (.ireturn, 1) := by decide +kernel
theorem dX10_hint_0 : decode cX10_hint 0 = .ok (.aload_n 0, 1) := by decide +kernel
theorem dX10_hint_1 : decode cX10_hint 1 = .ok (.getfield 60, 3) := by decide +kernel
theorem dX10_hint_4 : decode cX10_hint 4 = .ok (.invokevirtual 177, 3) := by decide +kernel
theorem dX10_hint_7 : decode cX10_hint 7 = .ok (.iconst 0, 1) := by decide +kernel
theorem dX10_hint_8 : decode cX10_hint 8 = .ok (.istore_n 2, 1) := by decide +kernel
theorem dX10_hint_9 : decode cX10_hint 9 = .ok (.iconst 0, 1) := by decide +kernel
theorem dX10_hint_10 : decode cX10_hint 10 = .ok (.istore_n 3, 1) := by decide +kernel
theorem dX10_hint_11 : decode cX10_hint 11 = .ok (.iload_n 3, 1) := by decide +kernel
theorem dX10_hint_12 : decode cX10_hint 12 = .ok (.aload_n 0, 1) := by decide +kernel
theorem dX10_hint_13 : decode cX10_hint 13 = .ok (.getfield 37, 3) := by decide +kernel
theorem dX10_hint_16 : decode cX10_hint 16 = .ok (.getfield 106, 3) := by decide +kernel
theorem dX10_hint_19 : decode cX10_hint 19 = .ok (.if_icmp .ge 30, 3) := by decide +kernel
theorem dX10_hint_22 : decode cX10_hint 22 = .ok (.aload_n 0, 1) := by decide +kernel
theorem dX10_hint_23 : decode cX10_hint 23 = .ok (.getfield 60, 3) := by decide +kernel
theorem dX10_hint_26 : decode cX10_hint 26 = .ok (.iload_n 3, 1) := by decide +kernel
theorem dX10_hint_27 : decode cX10_hint 27 = .ok (.invokevirtual 227, 3) := by decide +kernel
theorem dX10_hint_30 : decode cX10_hint 30 = .ok (.ifCond .eq 13, 3) := by decide +kernel
theorem dX10_hint_33 : decode cX10_hint 33 = .ok (.iload_n 2, 1) := by decide +kernel
theorem dX10_hint_34 : decode cX10_hint 34 = .ok (.iload_n 1, 1) := by decide +kernel
theorem dX10_hint_35 : decode cX10_hint 35 = .ok (.if_icmp .ne 5, 3) := by decide +kernel
theorem dX10_hint_38 : decode cX10_hint 38 = .ok (.iload_n 3, 1) := by decide +kernel
theorem dX10_hint_39 : decode cX10_hint 39 = .ok (.ireturn, 1) := by decide +kernel
theorem dX10_hint_40 : decode cX10_hint 40 = .ok (.iinc 2 1, 3) := by decide +kernel
theorem dX10_hint_43 : decode cX10_hint 43 = .ok (.iinc 3 1, 3) := by decide +kernel
theorem dX10_hint_46 : decode cX10_hint 46 = .ok (.goto (-35), 3) := by decide +kernel
theorem dX10_hint_49 : decode cX10_hint 49 = .ok (.bipush (-2), 2) := by decide +kernel
theorem dX10_hint_51 : decode cX10_hint 51 = .ok (.ireturn, 1) := by decide +kernel
theorem dX10_verbs_0 : decode cX10_verbs 0 = .ok (.aload_n 0, 1) := by decide +kernel
theorem dX10_verbs_1 : decode cX10_verbs 1 = .ok (.getfield 37, 3) := by decide +kernel
theorem dX10_verbs_4 : decode cX10_verbs 4 = .ok (.iload_n 1, 1) := by decide +kernel
theorem dX10_verbs_5 : decode cX10_verbs 5 = .ok (.iconst 1, 1) := by decide +kernel
theorem dX10_verbs_6 : decode cX10_verbs 6 = .ok (.invokevirtual 117, 3) := by decide +kernel
theorem dX10_verbs_9 : decode cX10_verbs 9 = .ok (.ifCond .ne 6, 3) := by decide +kernel
theorem dX10_verbs_12 : decode cX10_verbs 12 = .ok (.bipush (-2), 2) := by decide +kernel
theorem dX10_verbs_14 : decode cX10_verbs 14 = .ok (.ireturn, 1) := by decide +kernel
theorem dX10_verbs_15 : decode cX10_verbs 15 = .ok (.iconst 0, 1) := by decide +kernel
theorem dX10_verbs_16 : decode cX10_verbs 16 = .ok (.istore_n 3, 1) := by decide +kernel
theorem dX10_verbs_17 : decode cX10_verbs 17 = .ok (.iconst 0, 1) := by decide +kernel
theorem dX10_verbs_18 : decode cX10_verbs 18 = .ok (.istore 4, 2) := by decide +kernel
theorem dX10_verbs_20 : decode cX10_verbs 20 = .ok (.iload 4, 2) := by decide +kernel
theorem dX10_verbs_22 : decode cX10_verbs 22 = .ok (.aload_n 0, 1) := by decide +kernel
theorem dX10_verbs_23 : decode cX10_verbs 23 = .ok (.getfield 37, 3) := by decide +kernel
theorem dX10_verbs_26 : decode cX10_verbs 26 = .ok (.getfield 106, 3) := by decide +kernel
theorem dX10_verbs_29 : decode cX10_verbs 29 = .ok (.if_icmp .ge 30, 3) := by decide +kernel
theorem dX10_verbs_32 : decode cX10_verbs 32 = .ok (.aload_n 0, 1) := by decide +kernel
theorem dX10_verbs_33 : decode cX10_verbs 33 = .ok (.iload 4, 2) := by decide +kernel
theorem dX10_verbs_35 : decode cX10_verbs 35 = .ok (.iload_n 1, 1) := by decide +kernel
theorem dX10_verbs_36 : decode cX10_verbs 36 = .ok (.invokevirtual 230, 3) := by decide +kernel
theorem dX10_verbs_39 : decode cX10_verbs 39 = .ok (.ifCond .eq 14, 3) := by decide +kernel
theorem dX10_verbs_42 : decode cX10_verbs 42 = .ok (.iload_n 3, 1) := by decide +kernel
theorem dX10_verbs_43 : decode cX10_verbs 43 = .ok (.iload_n 2, 1) := by decide +kernel
theorem dX10_verbs_44 : decode cX10_verbs 44 = .ok (.if_icmp .ne 6, 3) := by decide +kernel
theorem dX10_verbs_47 : decode cX10_verbs 47 = .ok (.iload 4, 2) := by decide +kernel
theorem dX10_verbs_49 : decode cX10_verbs 49 = .ok (.ireturn, 1) := by decide +kernel
theorem dX10_verbs_50 : decode cX10_verbs 50 = .ok (.iinc 3 1, 3) := by decide +kernel
theorem dX10_verbs_53 : decode cX10_verbs 53 = .ok (.iinc 4 1, 3) := by decide +kernel
theorem dX10_verbs_56 : decode cX10_verbs 56 = .ok (.goto (-36), 3) := by decide +kernel
theorem dX10_verbs_59 : decode cX10_verbs 59 = .ok (.iconst (-1), 1) := by decide +kernel
theorem dX10_verbs_60 : decode cX10_verbs 60 = .ok (.ireturn, 1) := by decide +kernel
theorem dX10_edits_0 : decode cX10_edits 0 = .ok (.iload_n 1, 1) := by decide +kernel
theorem dX10_edits_1 : decode cX10_edits 1 = .ok (.ifCond .lt 29, 3) := by decide +kernel
theorem dX10_edits_4 : decode cX10_edits 4 = .ok (.iload_n 1, 1) := by decide +kernel
theorem dX10_edits_5 : decode cX10_edits 5 = .ok (.aload_n 0, 1) := by decide +kernel
theorem dX10_edits_6 : decode cX10_edits 6 = .ok (.getfield 51, 3) := by decide +kernel
theorem dX10_edits_9 : decode cX10_edits 9 = .ok (.getfield 163, 3) := by decide +kernel
theorem dX10_edits_12 : decode cX10_edits 12 = .ok (.if_icmp .ge 18, 3) := by decide +kernel
theorem dX10_edits_15 : decode cX10_edits 15 = .ok (.iload_n 2, 1) := by decide +kernel
theorem dX10_edits_16 : decode cX10_edits 16 = .ok (.ifCond .lt 14, 3) := by decide +kernel
theorem dX10_edits_19 : decode cX10_edits 19 = .ok (.iload_n 2, 1) := by decide +kernel
theorem dX10_edits_20 : decode cX10_edits 20 = .ok (.aload_n 0, 1) := by decide +kernel
theorem dX10_edits_21 : decode cX10_edits 21 = .ok (.getfield 37, 3) := by decide +kernel
theorem dX10_edits_24 : decode cX10_edits 24 = .ok (.getfield 106, 3) := by decide +kernel
theorem dX10_edits_27 : decode cX10_edits 27 = .ok (.if_icmp .lt 6, 3) := by decide +kernel
theorem dX10_edits_30 : decode cX10_edits 30 = .ok (.bipush (-2), 2) := by decide +kernel
theorem dX10_edits_32 : decode cX10_edits 32 = .ok (.ireturn, 1) := by decide +kernel
theorem dX10_edits_33 : decode cX10_edits 33 = .ok (.aload_n 0, 1) := by decide +kernel
theorem dX10_edits_34 : decode cX10_edits 34 = .ok (.getfield 94, 3) := by decide +kernel
theorem dX10_edits_37 : decode cX10_edits 37 = .ok (.iload_n 2, 1) := by decide +kernel
theorem dX10_edits_38 : decode cX10_edits 38 = .ok (.aload_n 0, 1) := by decide +kernel
theorem dX10_edits_39 : decode cX10_edits 39 = .ok (.getfield 51, 3) := by decide +kernel
theorem dX10_edits_42 : decode cX10_edits 42 = .ok (.iload_n 1, 1) := by decide +kernel
theorem dX10_edits_43 : decode cX10_edits 43 = .ok (.invokevirtual 233, 3) := by decide +kernel
theorem dX10_edits_46 : decode cX10_edits 46 = .ok (.istore_n 3, 1) := by decide +kernel
theorem dX10_edits_47 : decode cX10_edits 47 = .ok (.iload_n 3, 1) := by decide +kernel
theorem dX10_edits_48 : decode cX10_edits 48 = .ok (.iconst (-1), 1) := by decide +kernel
theorem dX10_edits_49 : decode cX10_edits 49 = .ok (.if_icmp .ne 6, 3) := by decide +kernel
theorem dX10_edits_52 : decode cX10_edits 52 = .ok (.bipush (-2), 2) := by decide +kernel
theorem dX10_edits_54 : decode cX10_edits 54 = .ok (.ireturn, 1) := by decide +kernel
theorem dX10_edits_55 : decode cX10_edits 55 = .ok (.aload_n 0, 1) := by decide +kernel
theorem dX10_edits_56 : decode cX10_edits 56 = .ok (.getfield 94, 3) := by decide +kernel
theorem dX10_edits_59 : decode cX10_edits 59 = .ok (.iload_n 3, 1) := by decide +kernel
theorem dX10_edits_60 : decode cX10_edits 60 = .ok (.aload_n 0, 1) := by decide +kernel
theorem dX10_edits_61 : decode cX10_edits 61 = .ok (.getfield 51, 3) := by decide +kernel
theorem dX10_edits_64 : decode cX10_edits 64 = .ok (.iload_n 1, 1) := by decide +kernel
theorem dX10_edits_65 : decode cX10_edits 65 = .ok (.invokevirtual 237, 3) := by decide +kernel
theorem dX10_edits_68 : decode cX10_edits 68 = .ok (.ireturn, 1) := by decide +kernel
theorem dX10_cell_0 : decode cX10_cell 0 = .ok (.iload_n 1, 1) := by decide +kernel
theorem dX10_cell_1 : decode cX10_cell 1 = .ok (.ifCond .lt 29, 3) := by decide +kernel
theorem dX10_cell_4 : decode cX10_cell 4 = .ok (.iload_n 1, 1) := by decide +kernel
theorem dX10_cell_5 : decode cX10_cell 5 = .ok (.aload_n 0, 1) := by decide +kernel
theorem dX10_cell_6 : decode cX10_cell 6 = .ok (.getfield 94, 3) := by decide +kernel
theorem dX10_cell_9 : decode cX10_cell 9 = .ok (.getfield 240, 3) := by decide +kernel
theorem dX10_cell_12 : decode cX10_cell 12 = .ok (.if_icmp .gt 18, 3) := by decide +kernel
theorem dX10_cell_15 : decode cX10_cell 15 = .ok (.iload_n 2, 1) := by decide +kernel
theorem dX10_cell_16 : decode cX10_cell 16 = .ok (.ifCond .lt 14, 3) := by decide +kernel
theorem dX10_cell_19 : decode cX10_cell 19 = .ok (.iload_n 2, 1) := by decide +kernel
theorem dX10_cell_20 : decode cX10_cell 20 = .ok (.aload_n 0, 1) := by decide +kernel
theorem dX10_cell_21 : decode cX10_cell 21 = .ok (.getfield 94, 3) := by decide +kernel
theorem dX10_cell_24 : decode cX10_cell 24 = .ok (.getfield 243, 3) := by decide +kernel
theorem dX10_cell_27 : decode cX10_cell 27 = .ok (.if_icmp .le 13, 3) := by decide +kernel
theorem dX10_cell_30 : decode cX10_cell 30 = .ok (.new 246, 3) := by decide +kernel
theorem dX10_cell_33 : decode cX10_cell 33 = .ok (.dup, 1) := by decide +kernel
theorem dX10_cell_34 : decode cX10_cell 34 = .ok (.ldc 248, 2) := by decide +kernel
theorem dX10_cell_36 : decode cX10_cell 36 = .ok (.invokespecial 250, 3) := by decide +kernel
theorem dX10_cell_39 : decode cX10_cell 39 = .ok (.athrow, 1) := by decide +kernel
theorem dX10_cell_40 : decode cX10_cell 40 = .ok (.aload_n 0, 1) := by decide +kernel
theorem dX10_cell_41 : decode cX10_cell 41 = .ok (.getfield 94, 3) := by decide +kernel
theorem dX10_cell_44 : decode cX10_cell 44 = .ok (.iload_n 1, 1) := by decide +kernel
theorem dX10_cell_45 : decode cX10_cell 45 = .ok (.iload_n 2, 1) := by decide +kernel
theorem dX10_cell_46 : decode cX10_cell 46 = .ok (.invokevirtual 253, 3) := by decide +kernel
theorem dX10_cell_49 : decode cX10_cell 49 = .ok (.ireturn, 1) := by decide +kernel
theorem dX10_forward_0 : decode cX10_forward 0 = .ok (.aload_n 0, 1) := by decide +kernel
theorem dX10_forward_1 : decode cX10_forward 1 = .ok (.getfield 90, 3) := by decide +kernel
theorem dX10_forward_4 : decode cX10_forward 4 = .ok (.aload_n 0, 1) := by decide +kernel
theorem dX10_forward_5 : decode cX10_forward 5 = .ok (.getfield 23, 3) := by decide +kernel
theorem dX10_forward_8 : decode cX10_forward 8 = .ok (.getfield 149, 3) := by decide +kernel
theorem dX10_forward_11 : decode cX10_forward 11 = .ok (.bipush 8, 2) := by decide +kernel
theorem dX10_forward_13 : decode cX10_forward 13 = .ok (.iaload, 1) := by decide +kernel
theorem dX10_forward_14 : decode cX10_forward 14 = .ok (.invokevirtual 256, 3) := by decide +kernel
theorem dX10_forward_17 : decode cX10_forward 17 = .ok (.ireturn, 1) := by decide +kernel
theorem dX10_pair_0 : decode cX10_pair 0 = .ok (.aload_n 0, 1) := by decide +kernel
theorem dX10_pair_1 : decode cX10_pair 1 = .ok (.getfield 90, 3) := by decide +kernel
theorem dX10_pair_4 : decode cX10_pair 4 = .ok (.iload_n 1, 1) := by decide +kernel
theorem dX10_pair_5 : decode cX10_pair 5 = .ok (.aload_n 0, 1) := by decide +kernel
theorem dX10_pair_6 : decode cX10_pair 6 = .ok (.getfield 23, 3) := by decide +kernel
theorem dX10_pair_9 : decode cX10_pair 9 = .ok (.getfield 149, 3) := by decide +kernel
theorem dX10_pair_12 : decode cX10_pair 12 = .ok (.bipush 8, 2) := by decide +kernel
theorem dX10_pair_14 : decode cX10_pair 14 = .ok (.iaload, 1) := by decide +kernel
theorem dX10_pair_15 : decode cX10_pair 15 = .ok (.invokevirtual 259, 3) := by decide +kernel
theorem dX10_pair_18 : decode cX10_pair 18 = .ok (.istore_n 3, 1) := by decide +kernel
theorem dX10_pair_19 : decode cX10_pair 19 = .ok (.iload_n 3, 1) := by decide +kernel
theorem dX10_pair_20 : decode cX10_pair 20 = .ok (.iconst (-1), 1) := by decide +kernel
theorem dX10_pair_21 : decode cX10_pair 21 = .ok (.if_icmp .eq 7, 3) := by decide +kernel
theorem dX10_pair_24 : decode cX10_pair 24 = .ok (.iload_n 2, 1) := by decide +kernel
theorem dX10_pair_25 : decode cX10_pair 25 = .ok (.ifCond .ge 6, 3) := by decide +kernel
theorem dX10_pair_28 : decode cX10_pair 28 = .ok (.bipush (-2), 2) := by decide +kernel
theorem dX10_pair_30 : decode cX10_pair 30 = .ok (.ireturn, 1) := by decide +kernel
theorem dX10_pair_31 : decode cX10_pair 31 = .ok (.iload_n 2, 1) := by decide +kernel
theorem dX10_pair_32 : decode cX10_pair 32 = .ok (.tableswitch 58 0 2 #[28, 38, 48], 28) := by decide +kernel
theorem dX10_pair_60 : decode cX10_pair 60 = .ok (.aload_n 0, 1) := by decide +kernel
theorem dX10_pair_61 : decode cX10_pair 61 = .ok (.getfield 90, 3) := by decide +kernel
theorem dX10_pair_64 : decode cX10_pair 64 = .ok (.getfield 262, 3) := by decide +kernel
theorem dX10_pair_67 : decode cX10_pair 67 = .ok (.iload_n 3, 1) := by decide +kernel
theorem dX10_pair_68 : decode cX10_pair 68 = .ok (.iaload, 1) := by decide +kernel
theorem dX10_pair_69 : decode cX10_pair 69 = .ok (.ireturn, 1) := by decide +kernel
theorem dX10_pair_70 : decode cX10_pair 70 = .ok (.aload_n 0, 1) := by decide +kernel
theorem dX10_pair_71 : decode cX10_pair 71 = .ok (.getfield 90, 3) := by decide +kernel
theorem dX10_pair_74 : decode cX10_pair 74 = .ok (.getfield 264, 3) := by decide +kernel
theorem dX10_pair_77 : decode cX10_pair 77 = .ok (.iload_n 3, 1) := by decide +kernel
theorem dX10_pair_78 : decode cX10_pair 78 = .ok (.iaload, 1) := by decide +kernel
theorem dX10_pair_79 : decode cX10_pair 79 = .ok (.ireturn, 1) := by decide +kernel
theorem dX10_pair_80 : decode cX10_pair 80 = .ok (.aload_n 0, 1) := by decide +kernel
theorem dX10_pair_81 : decode cX10_pair 81 = .ok (.getfield 90, 3) := by decide +kernel
theorem dX10_pair_84 : decode cX10_pair 84 = .ok (.getfield 267, 3) := by decide +kernel
theorem dX10_pair_87 : decode cX10_pair 87 = .ok (.iload_n 3, 1) := by decide +kernel
theorem dX10_pair_88 : decode cX10_pair 88 = .ok (.iaload, 1) := by decide +kernel
theorem dX10_pair_89 : decode cX10_pair 89 = .ok (.ireturn, 1) := by decide +kernel
theorem dX10_pair_90 : decode cX10_pair 90 = .ok (.iload_n 2, 1) := by decide +kernel
theorem dX10_pair_91 : decode cX10_pair 91 = .ok (.iconst 3, 1) := by decide +kernel
theorem dX10_pair_92 : decode cX10_pair 92 = .ok (.isub, 1) := by decide +kernel
theorem dX10_pair_93 : decode cX10_pair 93 = .ok (.aload_n 0, 1) := by decide +kernel
theorem dX10_pair_94 : decode cX10_pair 94 = .ok (.getfield 90, 3) := by decide +kernel
theorem dX10_pair_97 : decode cX10_pair 97 = .ok (.getfield 267, 3) := by decide +kernel
theorem dX10_pair_100 : decode cX10_pair 100 = .ok (.iload_n 3, 1) := by decide +kernel
theorem dX10_pair_101 : decode cX10_pair 101 = .ok (.iaload, 1) := by decide +kernel
theorem dX10_pair_102 : decode cX10_pair 102 = .ok (.if_icmp .ge 22, 3) := by decide +kernel
theorem dX10_pair_105 : decode cX10_pair 105 = .ok (.aload_n 0, 1) := by decide +kernel
theorem dX10_pair_106 : decode cX10_pair 106 = .ok (.getfield 90, 3) := by decide +kernel
theorem dX10_pair_109 : decode cX10_pair 109 = .ok (.getfield 268, 3) := by decide +kernel
theorem dX10_pair_112 : decode cX10_pair 112 = .ok (.iload_n 3, 1) := by decide +kernel
theorem dX10_pair_113 : decode cX10_pair 113 = .ok (.bipush 12, 2) := by decide +kernel
theorem dX10_pair_115 : decode cX10_pair 115 = .ok (.imul, 1) := by decide +kernel
theorem dX10_pair_116 : decode cX10_pair 116 = .ok (.iload_n 2, 1) := by decide +kernel
theorem dX10_pair_117 : decode cX10_pair 117 = .ok (.iadd, 1) := by decide +kernel
theorem dX10_pair_118 : decode cX10_pair 118 = .ok (.iconst 3, 1) := by decide +kernel
theorem dX10_pair_119 : decode cX10_pair 119 = .ok (.isub, 1) := by decide +kernel
theorem dX10_pair_120 : decode cX10_pair 120 = .ok (.iaload, 1) := by decide +kernel
theorem dX10_pair_121 : decode cX10_pair 121 = .ok (.goto 5, 3) := by decide +kernel
theorem dX10_pair_124 : decode cX10_pair 124 = .ok (.bipush (-2), 2) := by decide +kernel
theorem dX10_pair_126 : decode cX10_pair 126 = .ok (.ireturn, 1) := by decide +kernel
theorem dX10_learn_0 : decode cX10_learn 0 = .ok (.aload_n 0, 1) := by decide +kernel
theorem dX10_learn_1 : decode cX10_learn 1 = .ok (.getfield 90, 3) := by decide +kernel
theorem dX10_learn_4 : decode cX10_learn 4 = .ok (.iload_n 1, 1) := by decide +kernel
theorem dX10_learn_5 : decode cX10_learn 5 = .ok (.aload_n 0, 1) := by decide +kernel
theorem dX10_learn_6 : decode cX10_learn 6 = .ok (.getfield 23, 3) := by decide +kernel
theorem dX10_learn_9 : decode cX10_learn 9 = .ok (.getfield 149, 3) := by decide +kernel
theorem dX10_learn_12 : decode cX10_learn 12 = .ok (.bipush 8, 2) := by decide +kernel
theorem dX10_learn_14 : decode cX10_learn 14 = .ok (.iaload, 1) := by decide +kernel
theorem dX10_learn_15 : decode cX10_learn 15 = .ok (.invokevirtual 259, 3) := by decide +kernel
theorem dX10_learn_18 : decode cX10_learn 18 = .ok (.istore_n 2, 1) := by decide +kernel
theorem dX10_learn_19 : decode cX10_learn 19 = .ok (.iload_n 2, 1) := by decide +kernel
theorem dX10_learn_20 : decode cX10_learn 20 = .ok (.iconst (-1), 1) := by decide +kernel
theorem dX10_learn_21 : decode cX10_learn 21 = .ok (.if_icmp .ne 6, 3) := by decide +kernel
theorem dX10_learn_24 : decode cX10_learn 24 = .ok (.bipush (-2), 2) := by decide +kernel
theorem dX10_learn_26 : decode cX10_learn 26 = .ok (.ireturn, 1) := by decide +kernel
theorem dX10_learn_27 : decode cX10_learn 27 = .ok (.aload_n 0, 1) := by decide +kernel
theorem dX10_learn_28 : decode cX10_learn 28 = .ok (.getfield 30, 3) := by decide +kernel
theorem dX10_learn_31 : decode cX10_learn 31 = .ok (.aload_n 0, 1) := by decide +kernel
theorem dX10_learn_32 : decode cX10_learn 32 = .ok (.getfield 90, 3) := by decide +kernel
theorem dX10_learn_35 : decode cX10_learn 35 = .ok (.getfield 268, 3) := by decide +kernel
theorem dX10_learn_38 : decode cX10_learn 38 = .ok (.iload_n 2, 1) := by decide +kernel
theorem dX10_learn_39 : decode cX10_learn 39 = .ok (.bipush 12, 2) := by decide +kernel
theorem dX10_learn_41 : decode cX10_learn 41 = .ok (.imul, 1) := by decide +kernel
theorem dX10_learn_42 : decode cX10_learn 42 = .ok (.aload_n 0, 1) := by decide +kernel
theorem dX10_learn_43 : decode cX10_learn 43 = .ok (.getfield 90, 3) := by decide +kernel
theorem dX10_learn_46 : decode cX10_learn 46 = .ok (.getfield 267, 3) := by decide +kernel
theorem dX10_learn_49 : decode cX10_learn 49 = .ok (.iload_n 2, 1) := by decide +kernel
theorem dX10_learn_50 : decode cX10_learn 50 = .ok (.iaload, 1) := by decide +kernel
theorem dX10_learn_51 : decode cX10_learn 51 = .ok (.invokevirtual 102, 3) := by decide +kernel
theorem dX10_learn_54 : decode cX10_learn 54 = .ok (.iconst (-1), 1) := by decide +kernel
theorem dX10_learn_55 : decode cX10_learn 55 = .ok (.if_icmp .eq 6, 3) := by decide +kernel
theorem dX10_learn_58 : decode cX10_learn 58 = .ok (.bipush (-3), 2) := by decide +kernel
theorem dX10_learn_60 : decode cX10_learn 60 = .ok (.ireturn, 1) := by decide +kernel
theorem dX10_learn_61 : decode cX10_learn 61 = .ok (.aload_n 0, 1) := by decide +kernel
theorem dX10_learn_62 : decode cX10_learn 62 = .ok (.getfield 30, 3) := by decide +kernel
theorem dX10_learn_65 : decode cX10_learn 65 = .ok (.getfield 109, 3) := by decide +kernel
theorem dX10_learn_68 : decode cX10_learn 68 = .ok (.bipush 90, 2) := by decide +kernel
theorem dX10_learn_70 : decode cX10_learn 70 = .ok (.if_icmp .lt 6, 3) := by decide +kernel
theorem dX10_learn_73 : decode cX10_learn 73 = .ok (.bipush (-4), 2) := by decide +kernel
theorem dX10_learn_75 : decode cX10_learn 75 = .ok (.ireturn, 1) := by decide +kernel
theorem dX10_learn_76 : decode cX10_learn 76 = .ok (.aload_n 0, 1) := by decide +kernel
theorem dX10_learn_77 : decode cX10_learn 77 = .ok (.getfield 90, 3) := by decide +kernel
theorem dX10_learn_80 : decode cX10_learn 80 = .ok (.getfield 262, 3) := by decide +kernel
theorem dX10_learn_83 : decode cX10_learn 83 = .ok (.iload_n 2, 1) := by decide +kernel
theorem dX10_learn_84 : decode cX10_learn 84 = .ok (.iaload, 1) := by decide +kernel
theorem dX10_learn_85 : decode cX10_learn 85 = .ok (.istore_n 3, 1) := by decide +kernel
theorem dX10_learn_86 : decode cX10_learn 86 = .ok (.aload_n 0, 1) := by decide +kernel
theorem dX10_learn_87 : decode cX10_learn 87 = .ok (.getfield 30, 3) := by decide +kernel
theorem dX10_learn_90 : decode cX10_learn 90 = .ok (.aload_n 0, 1) := by decide +kernel
theorem dX10_learn_91 : decode cX10_learn 91 = .ok (.getfield 90, 3) := by decide +kernel
theorem dX10_learn_94 : decode cX10_learn 94 = .ok (.getfield 268, 3) := by decide +kernel
theorem dX10_learn_97 : decode cX10_learn 97 = .ok (.iload_n 2, 1) := by decide +kernel
theorem dX10_learn_98 : decode cX10_learn 98 = .ok (.bipush 12, 2) := by decide +kernel
theorem dX10_learn_100 : decode cX10_learn 100 = .ok (.imul, 1) := by decide +kernel
theorem dX10_learn_101 : decode cX10_learn 101 = .ok (.aload_n 0, 1) := by decide +kernel
theorem dX10_learn_102 : decode cX10_learn 102 = .ok (.getfield 90, 3) := by decide +kernel
theorem dX10_learn_105 : decode cX10_learn 105 = .ok (.getfield 267, 3) := by decide +kernel
theorem dX10_learn_108 : decode cX10_learn 108 = .ok (.iload_n 2, 1) := by decide +kernel
theorem dX10_learn_109 : decode cX10_learn 109 = .ok (.iaload, 1) := by decide +kernel
theorem dX10_learn_110 : decode cX10_learn 110 = .ok (.iload_n 3, 1) := by decide +kernel
theorem dX10_learn_111 : decode cX10_learn 111 = .ok (.invokevirtual 114, 3) := by decide +kernel
theorem dX10_learn_114 : decode cX10_learn 114 = .ok (.istore 4, 2) := by decide +kernel
theorem dX10_learn_116 : decode cX10_learn 116 = .ok (.aload_n 0, 1) := by decide +kernel
theorem dX10_learn_117 : decode cX10_learn 117 = .ok (.getfield 90, 3) := by decide +kernel
theorem dX10_learn_120 : decode cX10_learn 120 = .ok (.aload_n 0, 1) := by decide +kernel
theorem dX10_learn_121 : decode cX10_learn 121 = .ok (.getfield 30, 3) := by decide +kernel
theorem dX10_learn_124 : decode cX10_learn 124 = .ok (.getfield 271, 3) := by decide +kernel
theorem dX10_learn_127 : decode cX10_learn 127 = .ok (.iload 4, 2) := by decide +kernel
theorem dX10_learn_129 : decode cX10_learn 129 = .ok (.bipush 12, 2) := by decide +kernel
theorem dX10_learn_131 : decode cX10_learn 131 = .ok (.imul, 1) := by decide +kernel
theorem dX10_learn_132 : decode cX10_learn 132 = .ok (.aload_n 0, 1) := by decide +kernel
theorem dX10_learn_133 : decode cX10_learn 133 = .ok (.getfield 30, 3) := by decide +kernel
theorem dX10_learn_136 : decode cX10_learn 136 = .ok (.getfield 272, 3) := by decide +kernel
theorem dX10_learn_139 : decode cX10_learn 139 = .ok (.iload 4, 2) := by decide +kernel
theorem dX10_learn_141 : decode cX10_learn 141 = .ok (.iaload, 1) := by decide +kernel
theorem dX10_learn_142 : decode cX10_learn 142 = .ok (.invokevirtual 273, 3) := by decide +kernel
theorem dX10_learn_145 : decode cX10_learn 145 = .ok (.aload_n 0, 1) := by decide +kernel
theorem dX10_learn_146 : decode cX10_learn 146 = .ok (.getfield 30, 3) := by decide +kernel
theorem dX10_learn_149 : decode cX10_learn 149 = .ok (.iload_n 3, 1) := by decide +kernel
theorem dX10_learn_150 : decode cX10_learn 150 = .ok (.invokevirtual 277, 3) := by decide +kernel
theorem dX10_learn_153 : decode cX10_learn 153 = .ok (.ireturn, 1) := by decide +kernel
theorem dX10_count_0 : decode cX10_count 0 = .ok (.iload_n 1, 1) := by decide +kernel
theorem dX10_count_1 : decode cX10_count 1 = .ok (.tableswitch 96 0 6 #[43, 51, 59, 67, 75, 80, 88], 43) := by decide +kernel
theorem dX10_count_44 : decode cX10_count 44 = .ok (.aload_n 0, 1) := by decide +kernel
theorem dX10_count_45 : decode cX10_count 45 = .ok (.getfield 37, 3) := by decide +kernel
theorem dX10_count_48 : decode cX10_count 48 = .ok (.getfield 106, 3) := by decide +kernel
theorem dX10_count_51 : decode cX10_count 51 = .ok (.ireturn, 1) := by decide +kernel
theorem dX10_count_52 : decode cX10_count 52 = .ok (.aload_n 0, 1) := by decide +kernel
theorem dX10_count_53 : decode cX10_count 53 = .ok (.getfield 44, 3) := by decide +kernel
theorem dX10_count_56 : decode cX10_count 56 = .ok (.getfield 131, 3) := by decide +kernel
theorem dX10_count_59 : decode cX10_count 59 = .ok (.ireturn, 1) := by decide +kernel
theorem dX10_count_60 : decode cX10_count 60 = .ok (.aload_n 0, 1) := by decide +kernel
theorem dX10_count_61 : decode cX10_count 61 = .ok (.getfield 30, 3) := by decide +kernel
theorem dX10_count_64 : decode cX10_count 64 = .ok (.getfield 109, 3) := by decide +kernel
theorem dX10_count_67 : decode cX10_count 67 = .ok (.ireturn, 1) := by decide +kernel
theorem dX10_count_68 : decode cX10_count 68 = .ok (.aload_n 0, 1) := by decide +kernel
theorem dX10_count_69 : decode cX10_count 69 = .ok (.getfield 90, 3) := by decide +kernel
theorem dX10_count_72 : decode cX10_count 72 = .ok (.getfield 280, 3) := by decide +kernel
theorem dX10_count_75 : decode cX10_count 75 = .ok (.ireturn, 1) := by decide +kernel
theorem dX10_count_76 : decode cX10_count 76 = .ok (.aload_n 0, 1) := by decide +kernel
theorem dX10_count_77 : decode cX10_count 77 = .ok (.getfield 13, 3) := by decide +kernel
theorem dX10_count_80 : decode cX10_count 80 = .ok (.ireturn, 1) := by decide +kernel
theorem dX10_count_81 : decode cX10_count 81 = .ok (.aload_n 0, 1) := by decide +kernel
theorem dX10_count_82 : decode cX10_count 82 = .ok (.getfield 51, 3) := by decide +kernel
theorem dX10_count_85 : decode cX10_count 85 = .ok (.getfield 166, 3) := by decide +kernel
theorem dX10_count_88 : decode cX10_count 88 = .ok (.ireturn, 1) := by decide +kernel
theorem dX10_count_89 : decode cX10_count 89 = .ok (.aload_n 0, 1) := by decide +kernel
theorem dX10_count_90 : decode cX10_count 90 = .ok (.getfield 51, 3) := by decide +kernel
theorem dX10_count_93 : decode cX10_count 93 = .ok (.getfield 163, 3) := by decide +kernel
theorem dX10_count_96 : decode cX10_count 96 = .ok (.ireturn, 1) := by decide +kernel
theorem dX10_count_97 : decode cX10_count 97 = .ok (.bipush (-2), 2) := by decide +kernel
theorem dX10_count_99 : decode cX10_count 99 = .ok (.ireturn, 1) := by decide +kernel
theorem dX10_spell_0 : decode cX10_spell 0 = .ok (.iload_n 1, 1) := by decide +kernel
theorem dX10_spell_1 : decode cX10_spell 1 = .ok (.iconst 1, 1) := by decide +kernel
theorem dX10_spell_2 : decode cX10_spell 2 = .ok (.if_icmp .lt 9, 3) := by decide +kernel
theorem dX10_spell_5 : decode cX10_spell 5 = .ok (.iload_n 1, 1) := by decide +kernel
theorem dX10_spell_6 : decode cX10_spell 6 = .ok (.bipush 12, 2) := by decide +kernel
theorem dX10_spell_8 : decode cX10_spell 8 = .ok (.if_icmp .le 5, 3) := by decide +kernel
theorem dX10_spell_11 : decode cX10_spell 11 = .ok (.iconst 0, 1) := by decide +kernel
theorem dX10_spell_12 : decode cX10_spell 12 = .ok (.ireturn, 1) := by decide +kernel
theorem dX10_spell_13 : decode cX10_spell 13 = .ok (.iconst 0, 1) := by decide +kernel
theorem dX10_spell_14 : decode cX10_spell 14 = .ok (.istore_n 2, 1) := by decide +kernel
theorem dX10_spell_15 : decode cX10_spell 15 = .ok (.iload_n 2, 1) := by decide +kernel
theorem dX10_spell_16 : decode cX10_spell 16 = .ok (.iload_n 1, 1) := by decide +kernel
theorem dX10_spell_17 : decode cX10_spell 17 = .ok (.if_icmp .ge 48, 3) := by decide +kernel
theorem dX10_spell_20 : decode cX10_spell 20 = .ok (.aload_n 0, 1) := by decide +kernel
theorem dX10_spell_21 : decode cX10_spell 21 = .ok (.getfield 9, 3) := by decide +kernel
theorem dX10_spell_24 : decode cX10_spell 24 = .ok (.iload_n 2, 1) := by decide +kernel
theorem dX10_spell_25 : decode cX10_spell 25 = .ok (.iaload, 1) := by decide +kernel
theorem dX10_spell_26 : decode cX10_spell 26 = .ok (.bipush 97, 2) := by decide +kernel
theorem dX10_spell_28 : decode cX10_spell 28 = .ok (.if_icmp .lt 14, 3) := by decide +kernel
theorem dX10_spell_31 : decode cX10_spell 31 = .ok (.aload_n 0, 1) := by decide +kernel
theorem dX10_spell_32 : decode cX10_spell 32 = .ok (.getfield 9, 3) := by decide +kernel
theorem dX10_spell_35 : decode cX10_spell 35 = .ok (.iload_n 2, 1) := by decide +kernel
theorem dX10_spell_36 : decode cX10_spell 36 = .ok (.iaload, 1) := by decide +kernel
theorem dX10_spell_37 : decode cX10_spell 37 = .ok (.bipush 122, 2) := by decide +kernel
theorem dX10_spell_39 : decode cX10_spell 39 = .ok (.if_icmp .le 5, 3) := by decide +kernel
theorem dX10_spell_42 : decode cX10_spell 42 = .ok (.iconst 0, 1) := by decide +kernel
theorem dX10_spell_43 : decode cX10_spell 43 = .ok (.ireturn, 1) := by decide +kernel
theorem dX10_spell_44 : decode cX10_spell 44 = .ok (.aload_n 0, 1) := by decide +kernel
theorem dX10_spell_45 : decode cX10_spell 45 = .ok (.getfield 17, 3) := by decide +kernel
theorem dX10_spell_48 : decode cX10_spell 48 = .ok (.iload_n 2, 1) := by decide +kernel
theorem dX10_spell_49 : decode cX10_spell 49 = .ok (.aload_n 0, 1) := by decide +kernel
theorem dX10_spell_50 : decode cX10_spell 50 = .ok (.getfield 9, 3) := by decide +kernel
theorem dX10_spell_53 : decode cX10_spell 53 = .ok (.iload_n 2, 1) := by decide +kernel
theorem dX10_spell_54 : decode cX10_spell 54 = .ok (.iaload, 1) := by decide +kernel
theorem dX10_spell_55 : decode cX10_spell 55 = .ok (.bipush 97, 2) := by decide +kernel
theorem dX10_spell_57 : decode cX10_spell 57 = .ok (.isub, 1) := by decide +kernel
theorem dX10_spell_58 : decode cX10_spell 58 = .ok (.iastore, 1) := by decide +kernel
theorem dX10_spell_59 : decode cX10_spell 59 = .ok (.iinc 2 1, 3) := by decide +kernel
theorem dX10_spell_62 : decode cX10_spell 62 = .ok (.goto (-47), 3) := by decide +kernel
theorem dX10_spell_65 : decode cX10_spell 65 = .ok (.iconst 1, 1) := by decide +kernel
theorem dX10_spell_66 : decode cX10_spell 66 = .ok (.ireturn, 1) := by decide +kernel
theorem dX10_letterOf_0 : decode cX10_letterOf 0 = .ok (.iload_n 0, 1) := by decide +kernel
theorem dX10_letterOf_1 : decode cX10_letterOf 1 = .ok (.bipush 97, 2) := by decide +kernel
theorem dX10_letterOf_3 : decode cX10_letterOf 3 = .ok (.if_icmp .lt 14, 3) := by decide +kernel
theorem dX10_letterOf_6 : decode cX10_letterOf 6 = .ok (.iload_n 0, 1) := by decide +kernel
theorem dX10_letterOf_7 : decode cX10_letterOf 7 = .ok (.bipush 122, 2) := by decide +kernel
theorem dX10_letterOf_9 : decode cX10_letterOf 9 = .ok (.if_icmp .gt 8, 3) := by decide +kernel
theorem dX10_letterOf_12 : decode cX10_letterOf 12 = .ok (.iload_n 0, 1) := by decide +kernel
theorem dX10_letterOf_13 : decode cX10_letterOf 13 = .ok (.bipush 97, 2) := by decide +kernel
theorem dX10_letterOf_15 : decode cX10_letterOf 15 = .ok (.isub, 1) := by decide +kernel
theorem dX10_letterOf_16 : decode cX10_letterOf 16 = .ok (.ireturn, 1) := by decide +kernel
theorem dX10_letterOf_17 : decode cX10_letterOf 17 = .ok (.iload_n 0, 1) := by decide +kernel
theorem dX10_letterOf_18 : decode cX10_letterOf 18 = .ok (.bipush 65, 2) := by decide +kernel
theorem dX10_letterOf_20 : decode cX10_letterOf 20 = .ok (.if_icmp .lt 16, 3) := by decide +kernel
theorem dX10_letterOf_23 : decode cX10_letterOf 23 = .ok (.iload_n 0, 1) := by decide +kernel
theorem dX10_letterOf_24 : decode cX10_letterOf 24 = .ok (.bipush 90, 2) := by decide +kernel
theorem dX10_letterOf_26 : decode cX10_letterOf 26 = .ok (.if_icmp .gt 10, 3) := by decide +kernel
theorem dX10_letterOf_29 : decode cX10_letterOf 29 = .ok (.iload_n 0, 1) := by decide +kernel
theorem dX10_letterOf_30 : decode cX10_letterOf 30 = .ok (.bipush 65, 2) := by decide +kernel
theorem dX10_letterOf_32 : decode cX10_letterOf 32 = .ok (.isub, 1) := by decide +kernel
theorem dX10_letterOf_33 : decode cX10_letterOf 33 = .ok (.goto 4, 3) := by decide +kernel
theorem dX10_letterOf_36 : decode cX10_letterOf 36 = .ok (.iconst (-1), 1) := by decide +kernel
theorem dX10_letterOf_37 : decode cX10_letterOf 37 = .ok (.ireturn, 1) := by decide +kernel
theorem dX10_countRuns_0 : decode cX10_countRuns 0 = .ok (.iconst 0, 1) := by decide +kernel
theorem dX10_countRuns_1 : decode cX10_countRuns 1 = .ok (.istore_n 2, 1) := by decide +kernel
theorem dX10_countRuns_2 : decode cX10_countRuns 2 = .ok (.iconst 0, 1) := by decide +kernel
theorem dX10_countRuns_3 : decode cX10_countRuns 3 = .ok (.istore_n 3, 1) := by decide +kernel
theorem dX10_countRuns_4 : decode cX10_countRuns 4 = .ok (.iconst 0, 1) := by decide +kernel
theorem dX10_countRuns_5 : decode cX10_countRuns 5 = .ok (.istore 4, 2) := by decide +kernel
theorem dX10_countRuns_7 : decode cX10_countRuns 7 = .ok (.iload 4, 2) := by decide +kernel
theorem dX10_countRuns_9 : decode cX10_countRuns 9 = .ok (.iload_n 1, 1) := by decide +kernel
theorem dX10_countRuns_10 : decode cX10_countRuns 10 = .ok (.if_icmp .ge 42, 3) := by decide +kernel
theorem dX10_countRuns_13 : decode cX10_countRuns 13 = .ok (.aload_n 0, 1) := by decide +kernel
theorem dX10_countRuns_14 : decode cX10_countRuns 14 = .ok (.iload 4, 2) := by decide +kernel
theorem dX10_countRuns_16 : decode cX10_countRuns 16 = .ok (.iaload, 1) := by decide +kernel
theorem dX10_countRuns_17 : decode cX10_countRuns 17 = .ok (.invokestatic 281, 3) := by decide +kernel
theorem dX10_countRuns_20 : decode cX10_countRuns 20 = .ok (.iconst (-1), 1) := by decide +kernel
theorem dX10_countRuns_21 : decode cX10_countRuns 21 = .ok (.if_icmp .eq 7, 3) := by decide +kernel
theorem dX10_countRuns_24 : decode cX10_countRuns 24 = .ok (.iconst 1, 1) := by decide +kernel
theorem dX10_countRuns_25 : decode cX10_countRuns 25 = .ok (.goto 4, 3) := by decide +kernel
theorem dX10_countRuns_28 : decode cX10_countRuns 28 = .ok (.iconst 0, 1) := by decide +kernel
theorem dX10_countRuns_29 : decode cX10_countRuns 29 = .ok (.istore 5, 2) := by decide +kernel
theorem dX10_countRuns_31 : decode cX10_countRuns 31 = .ok (.iload 5, 2) := by decide +kernel
theorem dX10_countRuns_33 : decode cX10_countRuns 33 = .ok (.ifCond .eq 10, 3) := by decide +kernel
theorem dX10_countRuns_36 : decode cX10_countRuns 36 = .ok (.iload_n 3, 1) := by decide +kernel
theorem dX10_countRuns_37 : decode cX10_countRuns 37 = .ok (.ifCond .ne 6, 3) := by decide +kernel
theorem dX10_countRuns_40 : decode cX10_countRuns 40 = .ok (.iinc 2 1, 3) := by decide +kernel
theorem dX10_countRuns_43 : decode cX10_countRuns 43 = .ok (.iload 5, 2) := by decide +kernel
theorem dX10_countRuns_45 : decode cX10_countRuns 45 = .ok (.istore_n 3, 1) := by decide +kernel
theorem dX10_countRuns_46 : decode cX10_countRuns 46 = .ok (.iinc 4 1, 3) := by decide +kernel
theorem dX10_countRuns_49 : decode cX10_countRuns 49 = .ok (.goto (-42), 3) := by decide +kernel
theorem dX10_countRuns_52 : decode cX10_countRuns 52 = .ok (.iload_n 2, 1) := by decide +kernel
theorem dX10_countRuns_53 : decode cX10_countRuns 53 = .ok (.ireturn, 1) := by decide +kernel
theorem dX10_sameLetters_0 : decode cX10_sameLetters 0 = .ok (.iconst 0, 1) := by decide +kernel
theorem dX10_sameLetters_1 : decode cX10_sameLetters 1 = .ok (.istore 5, 2) := by decide +kernel
theorem dX10_sameLetters_3 : decode cX10_sameLetters 3 = .ok (.iload 5, 2) := by decide +kernel
theorem dX10_sameLetters_5 : decode cX10_sameLetters 5 = .ok (.iload 4, 2) := by decide +kernel
theorem dX10_sameLetters_7 : decode cX10_sameLetters 7 = .ok (.if_icmp .ge 26, 3) := by decide +kernel
theorem dX10_sameLetters_10 : decode cX10_sameLetters 10 = .ok (.aload_n 0, 1) := by decide +kernel
theorem dX10_sameLetters_11 : decode cX10_sameLetters 11 = .ok (.iload_n 1, 1) := by decide +kernel
theorem dX10_sameLetters_12 : decode cX10_sameLetters 12 = .ok (.iload 5, 2) := by decide +kernel
theorem dX10_sameLetters_14 : decode cX10_sameLetters 14 = .ok (.iadd, 1) := by decide +kernel
theorem dX10_sameLetters_15 : decode cX10_sameLetters 15 = .ok (.iaload, 1) := by decide +kernel
theorem dX10_sameLetters_16 : decode cX10_sameLetters 16 = .ok (.aload_n 2, 1) := by decide +kernel
theorem dX10_sameLetters_17 : decode cX10_sameLetters 17 = .ok (.iload_n 3, 1) := by decide +kernel
theorem dX10_sameLetters_18 : decode cX10_sameLetters 18 = .ok (.iload 5, 2) := by decide +kernel
theorem dX10_sameLetters_20 : decode cX10_sameLetters 20 = .ok (.iadd, 1) := by decide +kernel
theorem dX10_sameLetters_21 : decode cX10_sameLetters 21 = .ok (.iaload, 1) := by decide +kernel
theorem dX10_sameLetters_22 : decode cX10_sameLetters 22 = .ok (.if_icmp .eq 5, 3) := by decide +kernel
theorem dX10_sameLetters_25 : decode cX10_sameLetters 25 = .ok (.iconst 0, 1) := by decide +kernel
theorem dX10_sameLetters_26 : decode cX10_sameLetters 26 = .ok (.ireturn, 1) := by decide +kernel
theorem dX10_sameLetters_27 : decode cX10_sameLetters 27 = .ok (.iinc 5 1, 3) := by decide +kernel
theorem dX10_sameLetters_30 : decode cX10_sameLetters 30 = .ok (.goto (-27), 3) := by decide +kernel
theorem dX10_sameLetters_33 : decode cX10_sameLetters 33 = .ok (.iconst 1, 1) := by decide +kernel
theorem dX10_sameLetters_34 : decode cX10_sameLetters 34 = .ok (.ireturn, 1) := by decide +kernel
theorem dX10_countHints_0 : decode cX10_countHints 0 = .ok (.iconst 0, 1) := by decide +kernel
theorem dX10_countHints_1 : decode cX10_countHints 1 = .ok (.istore_n 1, 1) := by decide +kernel
theorem dX10_countHints_2 : decode cX10_countHints 2 = .ok (.iconst 0, 1) := by decide +kernel
theorem dX10_countHints_3 : decode cX10_countHints 3 = .ok (.istore_n 2, 1) := by decide +kernel
theorem dX10_countHints_4 : decode cX10_countHints 4 = .ok (.iload_n 2, 1) := by decide +kernel
theorem dX10_countHints_5 : decode cX10_countHints 5 = .ok (.aload_n 0, 1) := by decide +kernel
theorem dX10_countHints_6 : decode cX10_countHints 6 = .ok (.getfield 37, 3) := by decide +kernel
theorem dX10_countHints_9 : decode cX10_countHints 9 = .ok (.getfield 106, 3) := by decide +kernel
theorem dX10_countHints_12 : decode cX10_countHints 12 = .ok (.if_icmp .ge 23, 3) := by decide +kernel
theorem dX10_countHints_15 : decode cX10_countHints 15 = .ok (.aload_n 0, 1) := by decide +kernel
theorem dX10_countHints_16 : decode cX10_countHints 16 = .ok (.getfield 60, 3) := by decide +kernel
theorem dX10_countHints_19 : decode cX10_countHints 19 = .ok (.iload_n 2, 1) := by decide +kernel
theorem dX10_countHints_20 : decode cX10_countHints 20 = .ok (.invokevirtual 227, 3) := by decide +kernel
theorem dX10_countHints_23 : decode cX10_countHints 23 = .ok (.ifCond .eq 6, 3) := by decide +kernel
theorem dX10_countHints_26 : decode cX10_countHints 26 = .ok (.iinc 1 1, 3) := by decide +kernel
theorem dX10_countHints_29 : decode cX10_countHints 29 = .ok (.iinc 2 1, 3) := by decide +kernel
theorem dX10_countHints_32 : decode cX10_countHints 32 = .ok (.goto (-28), 3) := by decide +kernel
theorem dX10_countHints_35 : decode cX10_countHints 35 = .ok (.iload_n 1, 1) := by decide +kernel
theorem dX10_countHints_36 : decode cX10_countHints 36 = .ok (.ireturn, 1) := by decide +kernel
theorem dX10_mayFixUnasked_0 : decode cX10_mayFixUnasked 0 = .ok (.aload_n 0, 1) := by decide +kernel
theorem dX10_mayFixUnasked_1 : decode cX10_mayFixUnasked 1 = .ok (.getfield 74, 3) := by decide +kernel
theorem dX10_mayFixUnasked_4 : decode cX10_mayFixUnasked 4 = .ok (.getfield 191, 3) := by decide +kernel
theorem dX10_mayFixUnasked_7 : decode cX10_mayFixUnasked 7 = .ok (.iconst 1, 1) := by decide +kernel
theorem dX10_mayFixUnasked_8 : decode cX10_mayFixUnasked 8 = .ok (.if_icmp .eq 24, 3) := by decide +kernel
theorem dX10_mayFixUnasked_11 : decode cX10_mayFixUnasked 11 = .ok (.aload_n 0, 1) := by decide +kernel
theorem dX10_mayFixUnasked_12 : decode cX10_mayFixUnasked 12 = .ok (.getfield 74, 3) := by decide +kernel
theorem dX10_mayFixUnasked_15 : decode cX10_mayFixUnasked 15 = .ok (.getfield 210, 3) := by decide +kernel
theorem dX10_mayFixUnasked_18 : decode cX10_mayFixUnasked 18 = .ok (.iconst 0, 1) := by decide +kernel
theorem dX10_mayFixUnasked_19 : decode cX10_mayFixUnasked 19 = .ok (.iaload, 1) := by decide +kernel
theorem dX10_mayFixUnasked_20 : decode cX10_mayFixUnasked 20 = .ok (.aload_n 0, 1) := by decide +kernel
theorem dX10_mayFixUnasked_21 : decode cX10_mayFixUnasked 21 = .ok (.getfield 74, 3) := by decide +kernel
theorem dX10_mayFixUnasked_24 : decode cX10_mayFixUnasked 24 = .ok (.getfield 210, 3) := by decide +kernel
theorem dX10_mayFixUnasked_27 : decode cX10_mayFixUnasked 27 = .ok (.iconst 1, 1) := by decide +kernel
theorem dX10_mayFixUnasked_28 : decode cX10_mayFixUnasked 28 = .ok (.iaload, 1) := by decide +kernel
theorem dX10_mayFixUnasked_29 : decode cX10_mayFixUnasked 29 = .ok (.if_icmp .ge 7, 3) := by decide +kernel
theorem dX10_mayFixUnasked_32 : decode cX10_mayFixUnasked 32 = .ok (.iconst 1, 1) := by decide +kernel
theorem dX10_mayFixUnasked_33 : decode cX10_mayFixUnasked 33 = .ok (.goto 4, 3) := by decide +kernel
theorem dX10_mayFixUnasked_36 : decode cX10_mayFixUnasked 36 = .ok (.iconst 0, 1) := by decide +kernel
theorem dX10_mayFixUnasked_37 : decode cX10_mayFixUnasked 37 = .ok (.istore_n 1, 1) := by decide +kernel
theorem dX10_mayFixUnasked_38 : decode cX10_mayFixUnasked 38 = .ok (.aload_n 0, 1) := by decide +kernel
theorem dX10_mayFixUnasked_39 : decode cX10_mayFixUnasked 39 = .ok (.getfield 23, 3) := by decide +kernel
theorem dX10_mayFixUnasked_42 : decode cX10_mayFixUnasked 42 = .ok (.getfield 149, 3) := by decide +kernel
theorem dX10_mayFixUnasked_45 : decode cX10_mayFixUnasked 45 = .ok (.bipush 6, 2) := by decide +kernel
theorem dX10_mayFixUnasked_47 : decode cX10_mayFixUnasked 47 = .ok (.iaload, 1) := by decide +kernel
theorem dX10_mayFixUnasked_48 : decode cX10_mayFixUnasked 48 = .ok (.iconst 1, 1) := by decide +kernel
theorem dX10_mayFixUnasked_49 : decode cX10_mayFixUnasked 49 = .ok (.if_icmp .ne 19, 3) := by decide +kernel
theorem dX10_mayFixUnasked_52 : decode cX10_mayFixUnasked 52 = .ok (.iload_n 1, 1) := by decide +kernel
theorem dX10_mayFixUnasked_53 : decode cX10_mayFixUnasked 53 = .ok (.ifCond .eq 15, 3) := by decide +kernel
theorem dX10_mayFixUnasked_56 : decode cX10_mayFixUnasked 56 = .ok (.aload_n 0, 1) := by decide +kernel
theorem dX10_mayFixUnasked_57 : decode cX10_mayFixUnasked 57 = .ok (.getfield 74, 3) := by decide +kernel
theorem dX10_mayFixUnasked_60 : decode cX10_mayFixUnasked 60 = .ok (.getfield 213, 3) := by decide +kernel
theorem dX10_mayFixUnasked_63 : decode cX10_mayFixUnasked 63 = .ok (.iconst 0, 1) := by decide +kernel
theorem dX10_mayFixUnasked_64 : decode cX10_mayFixUnasked 64 = .ok (.baload, 1) := by decide +kernel
theorem dX10_mayFixUnasked_65 : decode cX10_mayFixUnasked 65 = .ok (.ifCond .ne 5, 3) := by decide +kernel
theorem dX10_mayFixUnasked_68 : decode cX10_mayFixUnasked 68 = .ok (.iconst 0, 1) := by decide +kernel
theorem dX10_mayFixUnasked_69 : decode cX10_mayFixUnasked 69 = .ok (.ireturn, 1) := by decide +kernel
theorem dX10_mayFixUnasked_70 : decode cX10_mayFixUnasked 70 = .ok (.aload_n 0, 1) := by decide +kernel
theorem dX10_mayFixUnasked_71 : decode cX10_mayFixUnasked 71 = .ok (.getfield 37, 3) := by decide +kernel
theorem dX10_mayFixUnasked_74 : decode cX10_mayFixUnasked 74 = .ok (.getfield 128, 3) := by decide +kernel
theorem dX10_mayFixUnasked_77 : decode cX10_mayFixUnasked 77 = .ok (.aload_n 0, 1) := by decide +kernel
theorem dX10_mayFixUnasked_78 : decode cX10_mayFixUnasked 78 = .ok (.getfield 60, 3) := by decide +kernel
theorem dX10_mayFixUnasked_81 : decode cX10_mayFixUnasked 81 = .ok (.aload_n 0, 1) := by decide +kernel
theorem dX10_mayFixUnasked_82 : decode cX10_mayFixUnasked 82 = .ok (.getfield 74, 3) := by decide +kernel
theorem dX10_mayFixUnasked_85 : decode cX10_mayFixUnasked 85 = .ok (.getfield 207, 3) := by decide +kernel
theorem dX10_mayFixUnasked_88 : decode cX10_mayFixUnasked 88 = .ok (.iconst 0, 1) := by decide +kernel
theorem dX10_mayFixUnasked_89 : decode cX10_mayFixUnasked 89 = .ok (.iaload, 1) := by decide +kernel
theorem dX10_mayFixUnasked_90 : decode cX10_mayFixUnasked 90 = .ok (.invokevirtual 284, 3) := by decide +kernel
theorem dX10_mayFixUnasked_93 : decode cX10_mayFixUnasked 93 = .ok (.baload, 1) := by decide +kernel
theorem dX10_mayFixUnasked_94 : decode cX10_mayFixUnasked 94 = .ok (.ifCond .ne 7, 3) := by decide +kernel
theorem dX10_mayFixUnasked_97 : decode cX10_mayFixUnasked 97 = .ok (.iconst 1, 1) := by decide +kernel
theorem dX10_mayFixUnasked_98 : decode cX10_mayFixUnasked 98 = .ok (.goto 4, 3) := by decide +kernel
theorem dX10_mayFixUnasked_101 : decode cX10_mayFixUnasked 101 = .ok (.iconst 0, 1) := by decide +kernel
theorem dX10_mayFixUnasked_102 : decode cX10_mayFixUnasked 102 = .ok (.ireturn, 1) := by decide +kernel
theorem dX10_accept_0 : decode cX10_accept 0 = .ok (.aload_n 0, 1) := by decide +kernel
theorem dX10_accept_1 : decode cX10_accept 1 = .ok (.getfield 60, 3) := by decide +kernel
theorem dX10_accept_4 : decode cX10_accept 4 = .ok (.getfield 184, 3) := by decide +kernel
theorem dX10_accept_7 : decode cX10_accept 7 = .ok (.istore_n 2, 1) := by decide +kernel
theorem dX10_accept_8 : decode cX10_accept 8 = .ok (.aload_n 0, 1) := by decide +kernel
theorem dX10_accept_9 : decode cX10_accept 9 = .ok (.getfield 74, 3) := by decide +kernel
theorem dX10_accept_12 : decode cX10_accept 12 = .ok (.getfield 207, 3) := by decide +kernel
theorem dX10_accept_15 : decode cX10_accept 15 = .ok (.iload_n 1, 1) := by decide +kernel
theorem dX10_accept_16 : decode cX10_accept 16 = .ok (.iaload, 1) := by decide +kernel
theorem dX10_accept_17 : decode cX10_accept 17 = .ok (.istore_n 3, 1) := by decide +kernel
theorem dX10_accept_18 : decode cX10_accept 18 = .ok (.aload_n 0, 1) := by decide +kernel
theorem dX10_accept_19 : decode cX10_accept 19 = .ok (.getfield 90, 3) := by decide +kernel
theorem dX10_accept_22 : decode cX10_accept 22 = .ok (.aload_n 0, 1) := by decide +kernel
theorem dX10_accept_23 : decode cX10_accept 23 = .ok (.getfield 51, 3) := by decide +kernel
theorem dX10_accept_26 : decode cX10_accept 26 = .ok (.getfield 287, 3) := by decide +kernel
theorem dX10_accept_29 : decode cX10_accept 29 = .ok (.aload_n 0, 1) := by decide +kernel
theorem dX10_accept_30 : decode cX10_accept 30 = .ok (.getfield 51, 3) := by decide +kernel
theorem dX10_accept_33 : decode cX10_accept 33 = .ok (.getfield 170, 3) := by decide +kernel
theorem dX10_accept_36 : decode cX10_accept 36 = .ok (.iload_n 2, 1) := by decide +kernel
theorem dX10_accept_37 : decode cX10_accept 37 = .ok (.iaload, 1) := by decide +kernel
theorem dX10_accept_38 : decode cX10_accept 38 = .ok (.aload_n 0, 1) := by decide +kernel
theorem dX10_accept_39 : decode cX10_accept 39 = .ok (.getfield 51, 3) := by decide +kernel
theorem dX10_accept_42 : decode cX10_accept 42 = .ok (.getfield 173, 3) := by decide +kernel
theorem dX10_accept_45 : decode cX10_accept 45 = .ok (.iload_n 2, 1) := by decide +kernel
theorem dX10_accept_46 : decode cX10_accept 46 = .ok (.iaload, 1) := by decide +kernel
theorem dX10_accept_47 : decode cX10_accept 47 = .ok (.iload_n 3, 1) := by decide +kernel
theorem dX10_accept_48 : decode cX10_accept 48 = .ok (.invokevirtual 288, 3) := by decide +kernel
theorem dX10_accept_51 : decode cX10_accept 51 = .ok (.aload_n 0, 1) := by decide +kernel
theorem dX10_accept_52 : decode cX10_accept 52 = .ok (.getfield 51, 3) := by decide +kernel
theorem dX10_accept_55 : decode cX10_accept 55 = .ok (.iload_n 2, 1) := by decide +kernel
theorem dX10_accept_56 : decode cX10_accept 56 = .ok (.aload_n 0, 1) := by decide +kernel
theorem dX10_accept_57 : decode cX10_accept 57 = .ok (.getfield 30, 3) := by decide +kernel
theorem dX10_accept_60 : decode cX10_accept 60 = .ok (.aload_n 0, 1) := by decide +kernel
theorem dX10_accept_61 : decode cX10_accept 61 = .ok (.getfield 30, 3) := by decide +kernel
theorem dX10_accept_64 : decode cX10_accept 64 = .ok (.iload_n 3, 1) := by decide +kernel
theorem dX10_accept_65 : decode cX10_accept 65 = .ok (.invokevirtual 291, 3) := by decide +kernel
theorem dX10_accept_68 : decode cX10_accept 68 = .ok (.invokevirtual 294, 3) := by decide +kernel
theorem dX10_accept_71 : decode cX10_accept 71 = .ok (.return_, 1) := by decide +kernel
theorem dX10_takes_0 : decode cX10_takes 0 = .ok (.iconst 0, 1) := by decide +kernel
theorem dX10_takes_1 : decode cX10_takes 1 = .ok (.istore_n 3, 1) := by decide +kernel
theorem dX10_takes_2 : decode cX10_takes 2 = .ok (.iload_n 3, 1) := by decide +kernel
theorem dX10_takes_3 : decode cX10_takes 3 = .ok (.aload_n 0, 1) := by decide +kernel
theorem dX10_takes_4 : decode cX10_takes 4 = .ok (.getfield 44, 3) := by decide +kernel
theorem dX10_takes_7 : decode cX10_takes 7 = .ok (.getfield 131, 3) := by decide +kernel
theorem dX10_takes_10 : decode cX10_takes 10 = .ok (.if_icmp .ge 71, 3) := by decide +kernel
theorem dX10_takes_13 : decode cX10_takes 13 = .ok (.aload_n 0, 1) := by decide +kernel
theorem dX10_takes_14 : decode cX10_takes 14 = .ok (.getfield 44, 3) := by decide +kernel
theorem dX10_takes_17 : decode cX10_takes 17 = .ok (.getfield 298, 3) := by decide +kernel
theorem dX10_takes_20 : decode cX10_takes 20 = .ok (.iload_n 3, 1) := by decide +kernel
theorem dX10_takes_21 : decode cX10_takes 21 = .ok (.iaload, 1) := by decide +kernel
theorem dX10_takes_22 : decode cX10_takes 22 = .ok (.iload_n 1, 1) := by decide +kernel
theorem dX10_takes_23 : decode cX10_takes 23 = .ok (.if_icmp .eq 6, 3) := by decide +kernel
theorem dX10_takes_26 : decode cX10_takes 26 = .ok (.goto 49, 3) := by decide +kernel
theorem dX10_takes_29 : decode cX10_takes 29 = .ok (.iconst 0, 1) := by decide +kernel
theorem dX10_takes_30 : decode cX10_takes 30 = .ok (.istore 4, 2) := by decide +kernel
theorem dX10_takes_32 : decode cX10_takes 32 = .ok (.iload 4, 2) := by decide +kernel
theorem dX10_takes_34 : decode cX10_takes 34 = .ok (.aload_n 0, 1) := by decide +kernel
theorem dX10_takes_35 : decode cX10_takes 35 = .ok (.getfield 44, 3) := by decide +kernel
theorem dX10_takes_38 : decode cX10_takes 38 = .ok (.getfield 133, 3) := by decide +kernel
theorem dX10_takes_41 : decode cX10_takes 41 = .ok (.iload_n 3, 1) := by decide +kernel
theorem dX10_takes_42 : decode cX10_takes 42 = .ok (.iaload, 1) := by decide +kernel
theorem dX10_takes_43 : decode cX10_takes 43 = .ok (.if_icmp .ge 32, 3) := by decide +kernel
theorem dX10_takes_46 : decode cX10_takes 46 = .ok (.aload_n 0, 1) := by decide +kernel
theorem dX10_takes_47 : decode cX10_takes 47 = .ok (.getfield 37, 3) := by decide +kernel
theorem dX10_takes_50 : decode cX10_takes 50 = .ok (.iload_n 2, 1) := by decide +kernel
theorem dX10_takes_51 : decode cX10_takes 51 = .ok (.aload_n 0, 1) := by decide +kernel
theorem dX10_takes_52 : decode cX10_takes 52 = .ok (.getfield 44, 3) := by decide +kernel
theorem dX10_takes_55 : decode cX10_takes 55 = .ok (.iload_n 3, 1) := by decide +kernel
theorem dX10_takes_56 : decode cX10_takes 56 = .ok (.iload 4, 2) := by decide +kernel
theorem dX10_takes_58 : decode cX10_takes 58 = .ok (.invokevirtual 301, 3) := by decide +kernel
theorem dX10_takes_61 : decode cX10_takes 61 = .ok (.invokevirtual 304, 3) := by decide +kernel
theorem dX10_takes_64 : decode cX10_takes 64 = .ok (.ifCond .eq 5, 3) := by decide +kernel
theorem dX10_takes_67 : decode cX10_takes 67 = .ok (.iconst 1, 1) := by decide +kernel
theorem dX10_takes_68 : decode cX10_takes 68 = .ok (.ireturn, 1) := by decide +kernel
theorem dX10_takes_69 : decode cX10_takes 69 = .ok (.iinc 4 1, 3) := by decide +kernel
theorem dX10_takes_72 : decode cX10_takes 72 = .ok (.goto (-40), 3) := by decide +kernel
theorem dX10_takes_75 : decode cX10_takes 75 = .ok (.iinc 3 1, 3) := by decide +kernel
theorem dX10_takes_78 : decode cX10_takes 78 = .ok (.goto (-76), 3) := by decide +kernel
theorem dX10_takes_81 : decode cX10_takes 81 = .ok (.iconst 0, 1) := by decide +kernel
theorem dX10_takes_82 : decode cX10_takes 82 = .ok (.ireturn, 1) := by decide +kernel
theorem dX11_thrown_0 : decode cX11_thrown 0 = .ok (.aload_n 0, 1) := by decide +kernel
theorem dX11_thrown_1 : decode cX11_thrown 1 = .ok (.getfield 1, 3) := by decide +kernel
theorem dX11_thrown_4 : decode cX11_thrown 4 = .ok (.ireturn, 1) := by decide +kernel
theorem dX11_in_0 : decode cX11_in 0 = .ok (.iload_n 0, 1) := by decide +kernel
theorem dX11_in_1 : decode cX11_in 1 = .ok (.iload_n 1, 1) := by decide +kernel
theorem dX11_in_2 : decode cX11_in 2 = .ok (.if_icmp .lt 12, 3) := by decide +kernel
theorem dX11_in_5 : decode cX11_in 5 = .ok (.iload_n 0, 1) := by decide +kernel
theorem dX11_in_6 : decode cX11_in 6 = .ok (.iload_n 2, 1) := by decide +kernel
theorem dX11_in_7 : decode cX11_in 7 = .ok (.if_icmp .gt 7, 3) := by decide +kernel
theorem dX11_in_10 : decode cX11_in 10 = .ok (.iconst 1, 1) := by decide +kernel
theorem dX11_in_11 : decode cX11_in 11 = .ok (.goto 4, 3) := by decide +kernel
theorem dX11_in_14 : decode cX11_in 14 = .ok (.iconst 0, 1) := by decide +kernel
theorem dX11_in_15 : decode cX11_in 15 = .ok (.ireturn, 1) := by decide +kernel
theorem dX11_init_0 : decode cX11_init 0 = .ok (.aload_n 0, 1) := by decide +kernel
theorem dX11_init_1 : decode cX11_init 1 = .ok (.invokespecial 7, 3) := by decide +kernel
theorem dX11_init_4 : decode cX11_init 4 = .ok (.aload_n 0, 1) := by decide +kernel
theorem dX11_init_5 : decode cX11_init 5 = .ok (.bipush 60, 2) := by decide +kernel
theorem dX11_init_7 : decode cX11_init 7 = .ok (.newarray .int, 2) := by decide +kernel
theorem dX11_init_9 : decode cX11_init 9 = .ok (.putfield 13, 3) := by decide +kernel
theorem dX11_init_12 : decode cX11_init 12 = .ok (.aload_n 0, 1) := by decide +kernel
theorem dX11_init_13 : decode cX11_init 13 = .ok (.bipush 60, 2) := by decide +kernel
theorem dX11_init_15 : decode cX11_init 15 = .ok (.newarray .boolean, 2) := by decide +kernel
theorem dX11_init_17 : decode cX11_init 17 = .ok (.putfield 17, 3) := by decide +kernel
theorem dX11_init_20 : decode cX11_init 20 = .ok (.aload_n 0, 1) := by decide +kernel
theorem dX11_init_21 : decode cX11_init 21 = .ok (.bipush 60, 2) := by decide +kernel
theorem dX11_init_23 : decode cX11_init 23 = .ok (.newarray .boolean, 2) := by decide +kernel
theorem dX11_init_25 : decode cX11_init 25 = .ok (.putfield 21, 3) := by decide +kernel
theorem dX11_init_28 : decode cX11_init 28 = .ok (.aload_n 0, 1) := by decide +kernel
theorem dX11_init_29 : decode cX11_init 29 = .ok (.bipush 60, 2) := by decide +kernel
theorem dX11_init_31 : decode cX11_init 31 = .ok (.newarray .int, 2) := by decide +kernel
theorem dX11_init_33 : decode cX11_init 33 = .ok (.putfield 24, 3) := by decide +kernel
theorem dX11_init_36 : decode cX11_init 36 = .ok (.aload_n 0, 1) := by decide +kernel
theorem dX11_init_37 : decode cX11_init 37 = .ok (.sipush 1080, 3) := by decide +kernel
theorem dX11_init_40 : decode cX11_init 40 = .ok (.newarray .int, 2) := by decide +kernel
theorem dX11_init_42 : decode cX11_init 42 = .ok (.putfield 27, 3) := by decide +kernel
theorem dX11_init_45 : decode cX11_init 45 = .ok (.aload_n 0, 1) := by decide +kernel
theorem dX11_init_46 : decode cX11_init 46 = .ok (.bipush 90, 2) := by decide +kernel
theorem dX11_init_48 : decode cX11_init 48 = .ok (.newarray .int, 2) := by decide +kernel
theorem dX11_init_50 : decode cX11_init 50 = .ok (.putfield 30, 3) := by decide +kernel
theorem dX11_init_53 : decode cX11_init 53 = .ok (.aload_n 0, 1) := by decide +kernel
theorem dX11_init_54 : decode cX11_init 54 = .ok (.bipush 90, 2) := by decide +kernel
theorem dX11_init_56 : decode cX11_init 56 = .ok (.newarray .int, 2) := by decide +kernel
theorem dX11_init_58 : decode cX11_init 58 = .ok (.putfield 33, 3) := by decide +kernel
theorem dX11_init_61 : decode cX11_init 61 = .ok (.aload_n 0, 1) := by decide +kernel
theorem dX11_init_62 : decode cX11_init 62 = .ok (.bipush 40, 2) := by decide +kernel
theorem dX11_init_64 : decode cX11_init 64 = .ok (.newarray .int, 2) := by decide +kernel
theorem dX11_init_66 : decode cX11_init 66 = .ok (.putfield 36, 3) := by decide +kernel
theorem dX11_init_69 : decode cX11_init 69 = .ok (.aload_n 0, 1) := by decide +kernel
theorem dX11_init_70 : decode cX11_init 70 = .ok (.sipush 160, 3) := by decide +kernel
theorem dX11_init_73 : decode cX11_init 73 = .ok (.newarray .int, 2) := by decide +kernel
theorem dX11_init_75 : decode cX11_init 75 = .ok (.putfield 39, 3) := by decide +kernel
theorem dX11_init_78 : decode cX11_init 78 = .ok (.aload_n 0, 1) := by decide +kernel
theorem dX11_init_79 : decode cX11_init 79 = .ok (.bipush 40, 2) := by decide +kernel
theorem dX11_init_81 : decode cX11_init 81 = .ok (.newarray .int, 2) := by decide +kernel
theorem dX11_init_83 : decode cX11_init 83 = .ok (.putfield 42, 3) := by decide +kernel
theorem dX11_init_86 : decode cX11_init 86 = .ok (.aload_n 0, 1) := by decide +kernel
theorem dX11_init_87 : decode cX11_init 87 = .ok (.bipush 9, 2) := by decide +kernel
theorem dX11_init_89 : decode cX11_init 89 = .ok (.newarray .int, 2) := by decide +kernel
theorem dX11_init_91 : decode cX11_init 91 = .ok (.putfield 45, 3) := by decide +kernel
theorem dX11_init_94 : decode cX11_init 94 = .ok (.aload_n 0, 1) := by decide +kernel
theorem dX11_init_95 : decode cX11_init 95 = .ok (.sipush 676, 3) := by decide +kernel
theorem dX11_init_98 : decode cX11_init 98 = .ok (.newarray .boolean, 2) := by decide +kernel
theorem dX11_init_100 : decode cX11_init 100 = .ok (.putfield 48, 3) := by decide +kernel
theorem dX11_init_103 : decode cX11_init 103 = .ok (.aload_n 0, 1) := by decide +kernel
theorem dX11_init_104 : decode cX11_init 104 = .ok (.bipush 80, 2) := by decide +kernel
theorem dX11_init_106 : decode cX11_init 106 = .ok (.newarray .int, 2) := by decide +kernel
theorem dX11_init_108 : decode cX11_init 108 = .ok (.putfield 51, 3) := by decide +kernel
theorem dX11_init_111 : decode cX11_init 111 = .ok (.aload_n 0, 1) := by decide +kernel
theorem dX11_init_112 : decode cX11_init 112 = .ok (.sipush 300, 3) := by decide +kernel
theorem dX11_init_115 : decode cX11_init 115 = .ok (.newarray .int, 2) := by decide +kernel
theorem dX11_init_117 : decode cX11_init 117 = .ok (.putfield 54, 3) := by decide +kernel
theorem dX11_init_120 : decode cX11_init 120 = .ok (.aload_n 0, 1) := by decide +kernel
theorem dX11_init_121 : decode cX11_init 121 = .ok (.sipush 300, 3) := by decide +kernel
theorem dX11_init_124 : decode cX11_init 124 = .ok (.newarray .int, 2) := by decide +kernel
theorem dX11_init_126 : decode cX11_init 126 = .ok (.putfield 57, 3) := by decide +kernel
theorem dX11_init_129 : decode cX11_init 129 = .ok (.aload_n 0, 1) := by decide +kernel
theorem dX11_init_130 : decode cX11_init 130 = .ok (.iconst (-1), 1) := by decide +kernel
theorem dX11_init_131 : decode cX11_init 131 = .ok (.putfield 60, 3) := by decide +kernel
theorem dX11_init_134 : decode cX11_init 134 = .ok (.aload_n 0, 1) := by decide +kernel
theorem dX11_init_135 : decode cX11_init 135 = .ok (.bipush 10, 2) := by decide +kernel
theorem dX11_init_137 : decode cX11_init 137 = .ok (.newarray .int, 2) := by decide +kernel
theorem dX11_init_139 : decode cX11_init 139 = .ok (.putfield 63, 3) := by decide +kernel
theorem dX11_init_142 : decode cX11_init 142 = .ok (.aload_n 0, 1) := by decide +kernel
theorem dX11_init_143 : decode cX11_init 143 = .ok (.bipush 10, 2) := by decide +kernel
theorem dX11_init_145 : decode cX11_init 145 = .ok (.newarray .int, 2) := by decide +kernel
theorem dX11_init_147 : decode cX11_init 147 = .ok (.putfield 66, 3) := by decide +kernel
theorem dX11_init_150 : decode cX11_init 150 = .ok (.aload_n 0, 1) := by decide +kernel
theorem dX11_init_151 : decode cX11_init 151 = .ok (.bipush 10, 2) := by decide +kernel
theorem dX11_init_153 : decode cX11_init 153 = .ok (.newarray .int, 2) := by decide +kernel
theorem dX11_init_155 : decode cX11_init 155 = .ok (.putfield 69, 3) := by decide +kernel
theorem dX11_init_158 : decode cX11_init 158 = .ok (.aload_n 0, 1) := by decide +kernel
theorem dX11_init_159 : decode cX11_init 159 = .ok (.bipush 10, 2) := by decide +kernel
theorem dX11_init_161 : decode cX11_init 161 = .ok (.newarray .int, 2) := by decide +kernel
theorem dX11_init_163 : decode cX11_init 163 = .ok (.putfield 72, 3) := by decide +kernel
theorem dX11_init_166 : decode cX11_init 166 = .ok (.aload_n 0, 1) := by decide +kernel
theorem dX11_init_167 : decode cX11_init 167 = .ok (.bipush 10, 2) := by decide +kernel
theorem dX11_init_169 : decode cX11_init 169 = .ok (.newarray .int, 2) := by decide +kernel
theorem dX11_init_171 : decode cX11_init 171 = .ok (.putfield 75, 3) := by decide +kernel
theorem dX11_init_174 : decode cX11_init 174 = .ok (.aload_n 0, 1) := by decide +kernel
theorem dX11_init_175 : decode cX11_init 175 = .ok (.sipush 1053, 3) := by decide +kernel
theorem dX11_init_178 : decode cX11_init 178 = .ok (.newarray .int, 2) := by decide +kernel
theorem dX11_init_180 : decode cX11_init 180 = .ok (.putfield 78, 3) := by decide +kernel
theorem dX11_init_183 : decode cX11_init 183 = .ok (.aload_n 0, 1) := by decide +kernel
theorem dX11_init_184 : decode cX11_init 184 = .ok (.sipush 1053, 3) := by decide +kernel
theorem dX11_init_187 : decode cX11_init 187 = .ok (.newarray .int, 2) := by decide +kernel
theorem dX11_init_189 : decode cX11_init 189 = .ok (.putfield 81, 3) := by decide +kernel
theorem dX11_init_192 : decode cX11_init 192 = .ok (.aload_n 0, 1) := by decide +kernel
theorem dX11_init_193 : decode cX11_init 193 = .ok (.bipush 60, 2) := by decide +kernel
theorem dX11_init_195 : decode cX11_init 195 = .ok (.newarray .int, 2) := by decide +kernel
theorem dX11_init_197 : decode cX11_init 197 = .ok (.putfield 84, 3) := by decide +kernel
theorem dX11_init_200 : decode cX11_init 200 = .ok (.aload_n 0, 1) := by decide +kernel
theorem dX11_init_201 : decode cX11_init 201 = .ok (.bipush 60, 2) := by decide +kernel
theorem dX11_init_203 : decode cX11_init 203 = .ok (.newarray .int, 2) := by decide +kernel
theorem dX11_init_205 : decode cX11_init 205 = .ok (.putfield 87, 3) := by decide +kernel
theorem dX11_init_208 : decode cX11_init 208 = .ok (.aload_n 0, 1) := by decide +kernel
theorem dX11_init_209 : decode cX11_init 209 = .ok (.bipush 60, 2) := by decide +kernel
theorem dX11_init_211 : decode cX11_init 211 = .ok (.newarray .boolean, 2) := by decide +kernel
theorem dX11_init_213 : decode cX11_init 213 = .ok (.putfield 90, 3) := by decide +kernel
theorem dX11_init_216 : decode cX11_init 216 = .ok (.aload_n 0, 1) := by decide +kernel
theorem dX11_init_217 : decode cX11_init 217 = .ok (.sipush 480, 3) := by decide +kernel
theorem dX11_init_220 : decode cX11_init 220 = .ok (.newarray .int, 2) := by decide +kernel
theorem dX11_init_222 : decode cX11_init 222 = .ok (.putfield 93, 3) := by decide +kernel
theorem dX11_init_225 : decode cX11_init 225 = .ok (.aload_n 0, 1) := by decide +kernel
theorem dX11_init_226 : decode cX11_init 226 = .ok (.bipush 40, 2) := by decide +kernel
theorem dX11_init_228 : decode cX11_init 228 = .ok (.newarray .int, 2) := by decide +kernel
theorem dX11_init_230 : decode cX11_init 230 = .ok (.putfield 96, 3) := by decide +kernel
theorem dX11_init_233 : decode cX11_init 233 = .ok (.aload_n 0, 1) := by decide +kernel
theorem dX11_init_234 : decode cX11_init 234 = .ok (.bipush 40, 2) := by decide +kernel
theorem dX11_init_236 : decode cX11_init 236 = .ok (.newarray .int, 2) := by decide +kernel
theorem dX11_init_238 : decode cX11_init 238 = .ok (.putfield 99, 3) := by decide +kernel
theorem dX11_init_241 : decode cX11_init 241 = .ok (.aload_n 0, 1) := by decide +kernel
theorem dX11_init_242 : decode cX11_init 242 = .ok (.bipush 40, 2) := by decide +kernel
theorem dX11_init_244 : decode cX11_init 244 = .ok (.newarray .int, 2) := by decide +kernel
theorem dX11_init_246 : decode cX11_init 246 = .ok (.putfield 102, 3) := by decide +kernel
theorem dX11_init_249 : decode cX11_init 249 = .ok (.aload_n 0, 1) := by decide +kernel
theorem dX11_init_250 : decode cX11_init 250 = .ok (.bipush 60, 2) := by decide +kernel
theorem dX11_init_252 : decode cX11_init 252 = .ok (.newarray .int, 2) := by decide +kernel
theorem dX11_init_254 : decode cX11_init 254 = .ok (.putfield 105, 3) := by decide +kernel
theorem dX11_init_257 : decode cX11_init 257 = .ok (.aload_n 0, 1) := by decide +kernel
theorem dX11_init_258 : decode cX11_init 258 = .ok (.iconst 4, 1) := by decide +kernel
theorem dX11_init_259 : decode cX11_init 259 = .ok (.newarray .int, 2) := by decide +kernel
theorem dX11_init_261 : decode cX11_init 261 = .ok (.putfield 108, 3) := by decide +kernel
theorem dX11_init_264 : decode cX11_init 264 = .ok (.aload_n 0, 1) := by decide +kernel
theorem dX11_init_265 : decode cX11_init 265 = .ok (.bipush 60, 2) := by decide +kernel
theorem dX11_init_267 : decode cX11_init 267 = .ok (.newarray .int, 2) := by decide +kernel
theorem dX11_init_269 : decode cX11_init 269 = .ok (.putfield 111, 3) := by decide +kernel
theorem dX11_init_272 : decode cX11_init 272 = .ok (.aload_n 0, 1) := by decide +kernel
theorem dX11_init_273 : decode cX11_init 273 = .ok (.sipush 1053, 3) := by decide +kernel
theorem dX11_init_276 : decode cX11_init 276 = .ok (.newarray .int, 2) := by decide +kernel
theorem dX11_init_278 : decode cX11_init 278 = .ok (.putfield 114, 3) := by decide +kernel
theorem dX11_init_281 : decode cX11_init 281 = .ok (.aload_n 0, 1) := by decide +kernel
theorem dX11_init_282 : decode cX11_init 282 = .ok (.iconst (-1), 1) := by decide +kernel
theorem dX11_init_283 : decode cX11_init 283 = .ok (.putfield 117, 3) := by decide +kernel
theorem dX11_init_286 : decode cX11_init 286 = .ok (.iconst 0, 1) := by decide +kernel
theorem dX11_init_287 : decode cX11_init 287 = .ok (.istore_n 1, 1) := by decide +kernel
theorem dX11_init_288 : decode cX11_init 288 = .ok (.iload_n 1, 1) := by decide +kernel
theorem dX11_init_289 : decode cX11_init 289 = .ok (.bipush 9, 2) := by decide +kernel
theorem dX11_init_291 : decode cX11_init 291 = .ok (.if_icmp .ge 60, 3) := by decide +kernel
theorem dX11_init_294 : decode cX11_init 294 = .ok (.aload_n 0, 1) := by decide +kernel
theorem dX11_init_295 : decode cX11_init 295 = .ok (.getfield 45, 3) := by decide +kernel
theorem dX11_init_298 : decode cX11_init 298 = .ok (.iload_n 1, 1) := by decide +kernel
theorem dX11_init_299 : decode cX11_init 299 = .ok (.iload_n 1, 1) := by decide +kernel
theorem dX11_init_300 : decode cX11_init 300 = .ok (.iconst 2, 1) := by decide +kernel
theorem dX11_init_301 : decode cX11_init 301 = .ok (.if_icmp .eq 9, 3) := by decide +kernel
theorem dX11_init_304 : decode cX11_init 304 = .ok (.iload_n 1, 1) := by decide +kernel
theorem dX11_init_305 : decode cX11_init 305 = .ok (.bipush 8, 2) := by decide +kernel
theorem dX11_init_307 : decode cX11_init 307 = .ok (.if_icmp .ne 7, 3) := by decide +kernel
theorem dX11_init_310 : decode cX11_init 310 = .ok (.iconst 3, 1) := by decide +kernel
theorem dX11_init_311 : decode cX11_init 311 = .ok (.goto 33, 3) := by decide +kernel
theorem dX11_init_314 : decode cX11_init 314 = .ok (.iload_n 1, 1) := by decide +kernel
theorem dX11_init_315 : decode cX11_init 315 = .ok (.iconst 5, 1) := by decide +kernel
theorem dX11_init_316 : decode cX11_init 316 = .ok (.if_icmp .ne 7, 3) := by decide +kernel
theorem dX11_init_319 : decode cX11_init 319 = .ok (.iconst 4, 1) := by decide +kernel
theorem dX11_init_320 : decode cX11_init 320 = .ok (.goto 24, 3) := by decide +kernel
theorem dX11_init_323 : decode cX11_init 323 = .ok (.iload_n 1, 1) := by decide +kernel
theorem dX11_init_324 : decode cX11_init 324 = .ok (.bipush 6, 2) := by decide +kernel
theorem dX11_init_326 : decode cX11_init 326 = .ok (.if_icmp .ne 7, 3) := by decide +kernel
theorem dX11_init_329 : decode cX11_init 329 = .ok (.iconst 0, 1) := by decide +kernel
theorem dX11_init_330 : decode cX11_init 330 = .ok (.goto 14, 3) := by decide +kernel
theorem dX11_init_333 : decode cX11_init 333 = .ok (.iload_n 1, 1) := by decide +kernel
theorem dX11_init_334 : decode cX11_init 334 = .ok (.bipush 7, 2) := by decide +kernel
theorem dX11_init_336 : decode cX11_init 336 = .ok (.if_icmp .ne 7, 3) := by decide +kernel
theorem dX11_init_339 : decode cX11_init 339 = .ok (.iconst 1, 1) := by decide +kernel
theorem dX11_init_340 : decode cX11_init 340 = .ok (.goto 4, 3) := by decide +kernel
theorem dX11_init_343 : decode cX11_init 343 = .ok (.iconst 2, 1) := by decide +kernel
theorem dX11_init_344 : decode cX11_init 344 = .ok (.iastore, 1) := by decide +kernel
theorem dX11_init_345 : decode cX11_init 345 = .ok (.iinc 1 1, 3) := by decide +kernel
theorem dX11_init_348 : decode cX11_init 348 = .ok (.goto (-60), 3) := by decide +kernel
theorem dX11_init_351 : decode cX11_init 351 = .ok (.return_, 1) := by decide +kernel
theorem dX11_isLetter_0 : decode cX11_isLetter 0 = .ok (.iload_n 0, 1) := by decide +kernel
theorem dX11_isLetter_1 : decode cX11_isLetter 1 = .ok (.bipush 97, 2) := by decide +kernel
theorem dX11_isLetter_3 : decode cX11_isLetter 3 = .ok (.bipush 122, 2) := by decide +kernel
theorem dX11_isLetter_5 : decode cX11_isLetter 5 = .ok (.invokestatic 120, 3) := by decide +kernel
theorem dX11_isLetter_8 : decode cX11_isLetter 8 = .ok (.ifCond .ne 14, 3) := by decide +kernel
theorem dX11_isLetter_11 : decode cX11_isLetter 11 = .ok (.iload_n 0, 1) := by decide +kernel
theorem dX11_isLetter_12 : decode cX11_isLetter 12 = .ok (.bipush 65, 2) := by decide +kernel
theorem dX11_isLetter_14 : decode cX11_isLetter 14 = .ok (.bipush 90, 2) := by decide +kernel
theorem dX11_isLetter_16 : decode cX11_isLetter 16 = .ok (.invokestatic 120, 3) := by decide +kernel
theorem dX11_isLetter_19 : decode cX11_isLetter 19 = .ok (.ifCond .eq 7, 3) := by decide +kernel
theorem dX11_isLetter_22 : decode cX11_isLetter 22 = .ok (.iconst 1, 1) := by decide +kernel
theorem dX11_isLetter_23 : decode cX11_isLetter 23 = .ok (.goto 4, 3) := by decide +kernel
theorem dX11_isLetter_26 : decode cX11_isLetter 26 = .ok (.iconst 0, 1) := by decide +kernel
theorem dX11_isLetter_27 : decode cX11_isLetter 27 = .ok (.ireturn, 1) := by decide +kernel
theorem dX11_small_0 : decode cX11_small 0 = .ok (.iload_n 0, 1) := by decide +kernel
theorem dX11_small_1 : decode cX11_small 1 = .ok (.bipush 97, 2) := by decide +kernel
theorem dX11_small_3 : decode cX11_small 3 = .ok (.if_icmp .ge 10, 3) := by decide +kernel
theorem dX11_small_6 : decode cX11_small 6 = .ok (.iload_n 0, 1) := by decide +kernel
theorem dX11_small_7 : decode cX11_small 7 = .ok (.bipush 32, 2) := by decide +kernel
theorem dX11_small_9 : decode cX11_small 9 = .ok (.iadd, 1) := by decide +kernel
theorem dX11_small_10 : decode cX11_small 10 = .ok (.goto 4, 3) := by decide +kernel
theorem dX11_small_13 : decode cX11_small 13 = .ok (.iload_n 0, 1) := by decide +kernel
theorem dX11_small_14 : decode cX11_small 14 = .ok (.ireturn, 1) := by decide +kernel
theorem dX11_named_0 : decode cX11_named 0 = .ok (.iconst (-1), 1) := by decide +kernel
theorem dX11_named_1 : decode cX11_named 1 = .ok (.istore 4, 2) := by decide +kernel
theorem dX11_named_3 : decode cX11_named 3 = .ok (.iconst 0, 1) := by decide +kernel
theorem dX11_named_4 : decode cX11_named 4 = .ok (.istore 5, 2) := by decide +kernel
theorem dX11_named_6 : decode cX11_named 6 = .ok (.iload 5, 2) := by decide +kernel
theorem dX11_named_8 : decode cX11_named 8 = .ok (.aload_n 0, 1) := by decide +kernel
theorem dX11_named_9 : decode cX11_named 9 = .ok (.getfield 124, 3) := by decide +kernel
theorem dX11_named_12 : decode cX11_named 12 = .ok (.if_icmp .ge 98, 3) := by decide +kernel
theorem dX11_named_15 : decode cX11_named 15 = .ok (.aload_n 0, 1) := by decide +kernel
theorem dX11_named_16 : decode cX11_named 16 = .ok (.getfield 30, 3) := by decide +kernel
theorem dX11_named_19 : decode cX11_named 19 = .ok (.iload 5, 2) := by decide +kernel
theorem dX11_named_21 : decode cX11_named 21 = .ok (.iaload, 1) := by decide +kernel
theorem dX11_named_22 : decode cX11_named 22 = .ok (.iload_n 3, 1) := by decide +kernel
theorem dX11_named_23 : decode cX11_named 23 = .ok (.if_icmp .ne 7, 3) := by decide +kernel
theorem dX11_named_26 : decode cX11_named 26 = .ok (.iconst 1, 1) := by decide +kernel
theorem dX11_named_27 : decode cX11_named 27 = .ok (.goto 4, 3) := by decide +kernel
theorem dX11_named_30 : decode cX11_named 30 = .ok (.iconst 0, 1) := by decide +kernel
theorem dX11_named_31 : decode cX11_named 31 = .ok (.istore 6, 2) := by decide +kernel
theorem dX11_named_33 : decode cX11_named 33 = .ok (.iconst 0, 1) := by decide +kernel
theorem dX11_named_34 : decode cX11_named 34 = .ok (.istore 7, 2) := by decide +kernel
theorem dX11_named_36 : decode cX11_named 36 = .ok (.iload 7, 2) := by decide +kernel
theorem dX11_named_38 : decode cX11_named 38 = .ok (.iload_n 3, 1) := by decide +kernel
theorem dX11_named_39 : decode cX11_named 39 = .ok (.if_icmp .ge 46, 3) := by decide +kernel
theorem dX11_named_42 : decode cX11_named 42 = .ok (.iload 6, 2) := by decide +kernel
theorem dX11_named_44 : decode cX11_named 44 = .ok (.ifCond .eq 41, 3) := by decide +kernel
theorem dX11_named_47 : decode cX11_named 47 = .ok (.aload_n 0, 1) := by decide +kernel
theorem dX11_named_48 : decode cX11_named 48 = .ok (.getfield 27, 3) := by decide +kernel
theorem dX11_named_51 : decode cX11_named 51 = .ok (.bipush 12, 2) := by decide +kernel
theorem dX11_named_53 : decode cX11_named 53 = .ok (.iload 5, 2) := by decide +kernel
theorem dX11_named_55 : decode cX11_named 55 = .ok (.imul, 1) := by decide +kernel
theorem dX11_named_56 : decode cX11_named 56 = .ok (.iload 7, 2) := by decide +kernel
theorem dX11_named_58 : decode cX11_named 58 = .ok (.iadd, 1) := by decide +kernel
theorem dX11_named_59 : decode cX11_named 59 = .ok (.iaload, 1) := by decide +kernel
theorem dX11_named_60 : decode cX11_named 60 = .ok (.aload_n 1, 1) := by decide +kernel
theorem dX11_named_61 : decode cX11_named 61 = .ok (.iload_n 2, 1) := by decide +kernel
theorem dX11_named_62 : decode cX11_named 62 = .ok (.iload 7, 2) := by decide +kernel
theorem dX11_named_64 : decode cX11_named 64 = .ok (.iadd, 1) := by decide +kernel
theorem dX11_named_65 : decode cX11_named 65 = .ok (.iaload, 1) := by decide +kernel
theorem dX11_named_66 : decode cX11_named 66 = .ok (.invokestatic 127, 3) := by decide +kernel
theorem dX11_named_69 : decode cX11_named 69 = .ok (.if_icmp .ne 7, 3) := by decide +kernel
theorem dX11_named_72 : decode cX11_named 72 = .ok (.iconst 1, 1) := by decide +kernel
theorem dX11_named_73 : decode cX11_named 73 = .ok (.goto 4, 3) := by decide +kernel
theorem dX11_named_76 : decode cX11_named 76 = .ok (.iconst 0, 1) := by decide +kernel
theorem dX11_named_77 : decode cX11_named 77 = .ok (.istore 6, 2) := by decide +kernel
theorem dX11_named_79 : decode cX11_named 79 = .ok (.iinc 7 1, 3) := by decide +kernel
theorem dX11_named_82 : decode cX11_named 82 = .ok (.goto (-46), 3) := by decide +kernel
theorem dX11_named_85 : decode cX11_named 85 = .ok (.iload 6, 2) := by decide +kernel
theorem dX11_named_87 : decode cX11_named 87 = .ok (.ifCond .eq 13, 3) := by decide +kernel
theorem dX11_named_90 : decode cX11_named 90 = .ok (.aload_n 0, 1) := by decide +kernel
theorem dX11_named_91 : decode cX11_named 91 = .ok (.getfield 33, 3) := by decide +kernel
theorem dX11_named_94 : decode cX11_named 94 = .ok (.iload 5, 2) := by decide +kernel
theorem dX11_named_96 : decode cX11_named 96 = .ok (.iaload, 1) := by decide +kernel
theorem dX11_named_97 : decode cX11_named 97 = .ok (.goto 5, 3) := by decide +kernel
theorem dX11_named_100 : decode cX11_named 100 = .ok (.iload 4, 2) := by decide +kernel
theorem dX11_named_102 : decode cX11_named 102 = .ok (.istore 4, 2) := by decide +kernel
theorem dX11_named_104 : decode cX11_named 104 = .ok (.iinc 5 1, 3) := by decide +kernel
theorem dX11_named_107 : decode cX11_named 107 = .ok (.goto (-101), 3) := by decide +kernel
theorem dX11_named_110 : decode cX11_named 110 = .ok (.iload 4, 2) := by decide +kernel
theorem dX11_named_112 : decode cX11_named 112 = .ok (.ireturn, 1) := by decide +kernel
theorem dX11_inScope_0 : decode cX11_inScope 0 = .ok (.aload_n 0, 1) := by decide +kernel
theorem dX11_inScope_1 : decode cX11_inScope 1 = .ok (.getfield 13, 3) := by decide +kernel
theorem dX11_inScope_4 : decode cX11_inScope 4 = .ok (.iload_n 1, 1) := by decide +kernel
theorem dX11_inScope_5 : decode cX11_inScope 5 = .ok (.iaload, 1) := by decide +kernel
theorem dX11_inScope_6 : decode cX11_inScope 6 = .ok (.iconst 1, 1) := by decide +kernel
theorem dX11_inScope_7 : decode cX11_inScope 7 = .ok (.if_icmp .ne 12, 3) := by decide +kernel
theorem dX11_inScope_10 : decode cX11_inScope 10 = .ok (.aload_n 0, 1) := by decide +kernel
theorem dX11_inScope_11 : decode cX11_inScope 11 = .ok (.getfield 17, 3) := by decide +kernel
theorem dX11_inScope_14 : decode cX11_inScope 14 = .ok (.iload_n 1, 1) := by decide +kernel
theorem dX11_inScope_15 : decode cX11_inScope 15 = .ok (.baload, 1) := by decide +kernel
theorem dX11_inScope_16 : decode cX11_inScope 16 = .ok (.ifCond .eq 7, 3) := by decide +kernel
theorem dX11_inScope_19 : decode cX11_inScope 19 = .ok (.iconst 1, 1) := by decide +kernel
theorem dX11_inScope_20 : decode cX11_inScope 20 = .ok (.goto 4, 3) := by decide +kernel
theorem dX11_inScope_23 : decode cX11_inScope 23 = .ok (.iconst 0, 1) := by decide +kernel
theorem dX11_inScope_24 : decode cX11_inScope 24 = .ok (.ireturn, 1) := by decide +kernel
theorem dX11_feed_0 : decode cX11_feed 0 = .ok (.aload_n 0, 1) := by decide +kernel
theorem dX11_feed_1 : decode cX11_feed 1 = .ok (.iconst 0, 1) := by decide +kernel
theorem dX11_feed_2 : decode cX11_feed 2 = .ok (.putfield 1, 3) := by decide +kernel
theorem dX11_feed_5 : decode cX11_feed 5 = .ok (.iload_n 1, 1) := by decide +kernel
theorem dX11_feed_6 : decode cX11_feed 6 = .ok (.iconst 1, 1) := by decide +kernel
theorem dX11_feed_7 : decode cX11_feed 7 = .ok (.bipush 8, 2) := by decide +kernel
theorem dX11_feed_9 : decode cX11_feed 9 = .ok (.invokestatic 120, 3) := by decide +kernel
theorem dX11_feed_12 : decode cX11_feed 12 = .ok (.ifCond .ne 6, 3) := by decide +kernel
theorem dX11_feed_15 : decode cX11_feed 15 = .ok (.bipush (-2), 2) := by decide +kernel
theorem dX11_feed_17 : decode cX11_feed 17 = .ok (.ireturn, 1) := by decide +kernel
theorem dX11_feed_18 : decode cX11_feed 18 = .ok (.aload_n 0, 1) := by decide +kernel
theorem dX11_feed_19 : decode cX11_feed 19 = .ok (.getfield 131, 3) := by decide +kernel
theorem dX11_feed_22 : decode cX11_feed 22 = .ok (.iload_n 1, 1) := by decide +kernel
theorem dX11_feed_23 : decode cX11_feed 23 = .ok (.iadd, 1) := by decide +kernel
theorem dX11_feed_24 : decode cX11_feed 24 = .ok (.bipush 80, 2) := by decide +kernel
theorem dX11_feed_26 : decode cX11_feed 26 = .ok (.if_icmp .le 6, 3) := by decide +kernel
theorem dX11_feed_29 : decode cX11_feed 29 = .ok (.bipush (-4), 2) := by decide +kernel
theorem dX11_feed_31 : decode cX11_feed 31 = .ok (.ireturn, 1) := by decide +kernel
theorem dX11_feed_32 : decode cX11_feed 32 = .ok (.iload_n 1, 1) := by decide +kernel
theorem dX11_feed_33 : decode cX11_feed 33 = .ok (.iconst 1, 1) := by decide +kernel
theorem dX11_feed_34 : decode cX11_feed 34 = .ok (.isub, 1) := by decide +kernel
theorem dX11_feed_35 : decode cX11_feed 35 = .ok (.istore 4, 2) := by decide +kernel
theorem dX11_feed_37 : decode cX11_feed 37 = .ok (.iload 4, 2) := by decide +kernel
theorem dX11_feed_39 : decode cX11_feed 39 = .ok (.ifCond .lt 40, 3) := by decide +kernel
theorem dX11_feed_42 : decode cX11_feed 42 = .ok (.aload_n 0, 1) := by decide +kernel
theorem dX11_feed_43 : decode cX11_feed 43 = .ok (.getfield 51, 3) := by decide +kernel
theorem dX11_feed_46 : decode cX11_feed 46 = .ok (.aload_n 0, 1) := by decide +kernel
theorem dX11_feed_47 : decode cX11_feed 47 = .ok (.getfield 131, 3) := by decide +kernel
theorem dX11_feed_50 : decode cX11_feed 50 = .ok (.lload_n 2, 1) := by decide +kernel
theorem dX11_feed_51 : decode cX11_feed 51 = .ok (.bipush 8, 2) := by decide +kernel
theorem dX11_feed_53 : decode cX11_feed 53 = .ok (.iload 4, 2) := by decide +kernel
theorem dX11_feed_55 : decode cX11_feed 55 = .ok (.imul, 1) := by decide +kernel
theorem dX11_feed_56 : decode cX11_feed 56 = .ok (.lshr, 1) := by decide +kernel
theorem dX11_feed_57 : decode cX11_feed 57 = .ok (.ldc2_w 134, 3) := by decide +kernel
theorem dX11_feed_60 : decode cX11_feed 60 = .ok (.land, 1) := by decide +kernel
theorem dX11_feed_61 : decode cX11_feed 61 = .ok (.l2i, 1) := by decide +kernel
theorem dX11_feed_62 : decode cX11_feed 62 = .ok (.iastore, 1) := by decide +kernel
theorem dX11_feed_63 : decode cX11_feed 63 = .ok (.aload_n 0, 1) := by decide +kernel
theorem dX11_feed_64 : decode cX11_feed 64 = .ok (.dup, 1) := by decide +kernel
theorem dX11_feed_65 : decode cX11_feed 65 = .ok (.getfield 131, 3) := by decide +kernel
theorem dX11_feed_68 : decode cX11_feed 68 = .ok (.iconst 1, 1) := by decide +kernel
theorem dX11_feed_69 : decode cX11_feed 69 = .ok (.iadd, 1) := by decide +kernel
theorem dX11_feed_70 : decode cX11_feed 70 = .ok (.putfield 131, 3) := by decide +kernel
theorem dX11_feed_73 : decode cX11_feed 73 = .ok (.iinc 4 (-1), 3) := by decide +kernel
theorem dX11_feed_76 : decode cX11_feed 76 = .ok (.goto (-39), 3) := by decide +kernel
theorem dX11_feed_79 : decode cX11_feed 79 = .ok (.aload_n 0, 1) := by decide +kernel
theorem dX11_feed_80 : decode cX11_feed 80 = .ok (.getfield 131, 3) := by decide +kernel
theorem dX11_feed_83 : decode cX11_feed 83 = .ok (.ireturn, 1) := by decide +kernel
theorem dX11_name_0 : decode cX11_name 0 = .ok (.iconst 0, 1) := by decide +kernel
theorem dX11_name_1 : decode cX11_name 1 = .ok (.istore 5, 2) := by decide +kernel
theorem dX11_name_3 : decode cX11_name 3 = .ok (.iload 5, 2) := by decide +kernel
theorem dX11_name_5 : decode cX11_name 5 = .ok (.iload_n 3, 1) := by decide +kernel
theorem dX11_name_6 : decode cX11_name 6 = .ok (.if_icmp .ge 30, 3) := by decide +kernel
theorem dX11_name_9 : decode cX11_name 9 = .ok (.aload_n 0, 1) := by decide +kernel
theorem dX11_name_10 : decode cX11_name 10 = .ok (.getfield 27, 3) := by decide +kernel
theorem dX11_name_13 : decode cX11_name 13 = .ok (.bipush 12, 2) := by decide +kernel
theorem dX11_name_15 : decode cX11_name 15 = .ok (.aload_n 0, 1) := by decide +kernel
theorem dX11_name_16 : decode cX11_name 16 = .ok (.getfield 124, 3) := by decide +kernel
theorem dX11_name_19 : decode cX11_name 19 = .ok (.imul, 1) := by decide +kernel
theorem dX11_name_20 : decode cX11_name 20 = .ok (.iload 5, 2) := by decide +kernel
theorem dX11_name_22 : decode cX11_name 22 = .ok (.iadd, 1) := by decide +kernel
theorem dX11_name_23 : decode cX11_name 23 = .ok (.aload_n 1, 1) := by decide +kernel
theorem dX11_name_24 : decode cX11_name 24 = .ok (.iload_n 2, 1) := by decide +kernel
theorem dX11_name_25 : decode cX11_name 25 = .ok (.iload 5, 2) := by decide +kernel
theorem dX11_name_27 : decode cX11_name 27 = .ok (.iadd, 1) := by decide +kernel
theorem dX11_name_28 : decode cX11_name 28 = .ok (.iaload, 1) := by decide +kernel
theorem dX11_name_29 : decode cX11_name 29 = .ok (.iastore, 1) := by decide +kernel
theorem dX11_name_30 : decode cX11_name 30 = .ok (.iinc 5 1, 3) := by decide +kernel
theorem dX11_name_33 : decode cX11_name 33 = .ok (.goto (-30), 3) := by decide +kernel
theorem dX11_name_36 : decode cX11_name 36 = .ok (.aload_n 0, 1) := by decide +kernel
theorem dX11_name_37 : decode cX11_name 37 = .ok (.getfield 30, 3) := by decide +kernel
theorem dX11_name_40 : decode cX11_name 40 = .ok (.aload_n 0, 1) := by decide +kernel
theorem dX11_name_41 : decode cX11_name 41 = .ok (.getfield 124, 3) := by decide +kernel
theorem dX11_name_44 : decode cX11_name 44 = .ok (.iload_n 3, 1) := by decide +kernel
theorem dX11_name_45 : decode cX11_name 45 = .ok (.iastore, 1) := by decide +kernel
theorem dX11_name_46 : decode cX11_name 46 = .ok (.aload_n 0, 1) := by decide +kernel
theorem dX11_name_47 : decode cX11_name 47 = .ok (.getfield 33, 3) := by decide +kernel
theorem dX11_name_50 : decode cX11_name 50 = .ok (.aload_n 0, 1) := by decide +kernel
theorem dX11_name_51 : decode cX11_name 51 = .ok (.getfield 124, 3) := by decide +kernel
theorem dX11_name_54 : decode cX11_name 54 = .ok (.iload 4, 2) := by decide +kernel
theorem dX11_name_56 : decode cX11_name 56 = .ok (.iastore, 1) := by decide +kernel
theorem dX11_name_57 : decode cX11_name 57 = .ok (.aload_n 0, 1) := by decide +kernel
theorem dX11_name_58 : decode cX11_name 58 = .ok (.dup, 1) := by decide +kernel
theorem dX11_name_59 : decode cX11_name 59 = .ok (.getfield 124, 3) := by decide +kernel
theorem dX11_name_62 : decode cX11_name 62 = .ok (.iconst 1, 1) := by decide +kernel
theorem dX11_name_63 : decode cX11_name 63 = .ok (.iadd, 1) := by decide +kernel
theorem dX11_name_64 : decode cX11_name 64 = .ok (.putfield 124, 3) := by decide +kernel
theorem dX11_name_67 : decode cX11_name 67 = .ok (.return_, 1) := by decide +kernel
theorem dX11_word_0 : decode cX11_word 0 = .ok (.aload_n 0, 1) := by decide +kernel
theorem dX11_word_1 : decode cX11_word 1 = .ok (.iconst 0, 1) := by decide +kernel
theorem dX11_word_2 : decode cX11_word 2 = .ok (.putfield 1, 3) := by decide +kernel
theorem dX11_word_5 : decode cX11_word 5 = .ok (.aload_n 0, 1) := by decide +kernel
theorem dX11_word_6 : decode cX11_word 6 = .ok (.getfield 131, 3) := by decide +kernel
theorem dX11_word_9 : decode cX11_word 9 = .ok (.istore_n 2, 1) := by decide +kernel
theorem dX11_word_10 : decode cX11_word 10 = .ok (.aload_n 0, 1) := by decide +kernel
theorem dX11_word_11 : decode cX11_word 11 = .ok (.iconst 0, 1) := by decide +kernel
theorem dX11_word_12 : decode cX11_word 12 = .ok (.putfield 131, 3) := by decide +kernel
theorem dX11_word_15 : decode cX11_word 15 = .ok (.iload_n 1, 1) := by decide +kernel
theorem dX11_word_16 : decode cX11_word 16 = .ok (.iconst 0, 1) := by decide +kernel
theorem dX11_word_17 : decode cX11_word 17 = .ok (.iconst 3, 1) := by decide +kernel
theorem dX11_word_18 : decode cX11_word 18 = .ok (.invokestatic 120, 3) := by decide +kernel
theorem dX11_word_21 : decode cX11_word 21 = .ok (.ifCond .eq 17, 3) := by decide +kernel
theorem dX11_word_24 : decode cX11_word 24 = .ok (.iload_n 2, 1) := by decide +kernel
theorem dX11_word_25 : decode cX11_word 25 = .ok (.iconst 1, 1) := by decide +kernel
theorem dX11_word_26 : decode cX11_word 26 = .ok (.bipush 12, 2) := by decide +kernel
theorem dX11_word_28 : decode cX11_word 28 = .ok (.invokestatic 120, 3) := by decide +kernel
theorem dX11_word_31 : decode cX11_word 31 = .ok (.ifCond .eq 7, 3) := by decide +kernel
theorem dX11_word_34 : decode cX11_word 34 = .ok (.iconst 1, 1) := by decide +kernel
theorem dX11_word_35 : decode cX11_word 35 = .ok (.goto 4, 3) := by decide +kernel
theorem dX11_word_38 : decode cX11_word 38 = .ok (.iconst 0, 1) := by decide +kernel
theorem dX11_word_39 : decode cX11_word 39 = .ok (.istore_n 3, 1) := by decide +kernel
theorem dX11_word_40 : decode cX11_word 40 = .ok (.iconst 0, 1) := by decide +kernel
theorem dX11_word_41 : decode cX11_word 41 = .ok (.istore 4, 2) := by decide +kernel
theorem dX11_word_43 : decode cX11_word 43 = .ok (.iload 4, 2) := by decide +kernel
theorem dX11_word_45 : decode cX11_word 45 = .ok (.iload_n 2, 1) := by decide +kernel
theorem dX11_word_46 : decode cX11_word 46 = .ok (.if_icmp .ge 36, 3) := by decide +kernel
theorem dX11_word_49 : decode cX11_word 49 = .ok (.iload_n 3, 1) := by decide +kernel
theorem dX11_word_50 : decode cX11_word 50 = .ok (.ifCond .eq 24, 3) := by decide +kernel
theorem dX11_word_53 : decode cX11_word 53 = .ok (.aload_n 0, 1) := by decide +kernel
theorem dX11_word_54 : decode cX11_word 54 = .ok (.getfield 51, 3) := by decide +kernel
theorem dX11_word_57 : decode cX11_word 57 = .ok (.iload 4, 2) := by decide +kernel
theorem dX11_word_59 : decode cX11_word 59 = .ok (.iaload, 1) := by decide +kernel
theorem dX11_word_60 : decode cX11_word 60 = .ok (.bipush 97, 2) := by decide +kernel
theorem dX11_word_62 : decode cX11_word 62 = .ok (.bipush 122, 2) := by decide +kernel
theorem dX11_word_64 : decode cX11_word 64 = .ok (.invokestatic 120, 3) := by decide +kernel
theorem dX11_word_67 : decode cX11_word 67 = .ok (.ifCond .eq 7, 3) := by decide +kernel
theorem dX11_word_70 : decode cX11_word 70 = .ok (.iconst 1, 1) := by decide +kernel
theorem dX11_word_71 : decode cX11_word 71 = .ok (.goto 4, 3) := by decide +kernel
theorem dX11_word_74 : decode cX11_word 74 = .ok (.iconst 0, 1) := by decide +kernel
theorem dX11_word_75 : decode cX11_word 75 = .ok (.istore_n 3, 1) := by decide +kernel
theorem dX11_word_76 : decode cX11_word 76 = .ok (.iinc 4 1, 3) := by decide +kernel
theorem dX11_word_79 : decode cX11_word 79 = .ok (.goto (-36), 3) := by decide +kernel
theorem dX11_word_82 : decode cX11_word 82 = .ok (.iload_n 3, 1) := by decide +kernel
theorem dX11_word_83 : decode cX11_word 83 = .ok (.ifCond .ne 6, 3) := by decide +kernel
theorem dX11_word_86 : decode cX11_word 86 = .ok (.bipush (-2), 2) := by decide +kernel
theorem dX11_word_88 : decode cX11_word 88 = .ok (.ireturn, 1) := by decide +kernel
theorem dX11_word_89 : decode cX11_word 89 = .ok (.aload_n 0, 1) := by decide +kernel
theorem dX11_word_90 : decode cX11_word 90 = .ok (.aload_n 0, 1) := by decide +kernel
theorem dX11_word_91 : decode cX11_word 91 = .ok (.getfield 51, 3) := by decide +kernel
theorem dX11_word_94 : decode cX11_word 94 = .ok (.iconst 0, 1) := by decide +kernel
theorem dX11_word_95 : decode cX11_word 95 = .ok (.iload_n 2, 1) := by decide +kernel
theorem dX11_word_96 : decode cX11_word 96 = .ok (.invokevirtual 136, 3) := by decide +kernel
theorem dX11_word_99 : decode cX11_word 99 = .ok (.iconst (-1), 1) := by decide +kernel
theorem dX11_word_100 : decode cX11_word 100 = .ok (.if_icmp .eq 6, 3) := by decide +kernel
theorem dX11_word_103 : decode cX11_word 103 = .ok (.bipush (-3), 2) := by decide +kernel
theorem dX11_word_105 : decode cX11_word 105 = .ok (.ireturn, 1) := by decide +kernel
theorem dX11_word_106 : decode cX11_word 106 = .ok (.aload_n 0, 1) := by decide +kernel
theorem dX11_word_107 : decode cX11_word 107 = .ok (.getfield 140, 3) := by decide +kernel
theorem dX11_word_110 : decode cX11_word 110 = .ok (.bipush 60, 2) := by decide +kernel
theorem dX11_word_112 : decode cX11_word 112 = .ok (.if_icmp .eq 12, 3) := by decide +kernel
theorem dX11_word_115 : decode cX11_word 115 = .ok (.aload_n 0, 1) := by decide +kernel
theorem dX11_word_116 : decode cX11_word 116 = .ok (.getfield 124, 3) := by decide +kernel
theorem dX11_word_119 : decode cX11_word 119 = .ok (.bipush 90, 2) := by decide +kernel
theorem dX11_word_121 : decode cX11_word 121 = .ok (.if_icmp .ne 6, 3) := by decide +kernel
theorem dX11_word_124 : decode cX11_word 124 = .ok (.bipush (-4), 2) := by decide +kernel
theorem dX11_word_126 : decode cX11_word 126 = .ok (.ireturn, 1) := by decide +kernel
theorem dX11_word_127 : decode cX11_word 127 = .ok (.aload_n 0, 1) := by decide +kernel
theorem dX11_word_128 : decode cX11_word 128 = .ok (.getfield 13, 3) := by decide +kernel
theorem dX11_word_131 : decode cX11_word 131 = .ok (.aload_n 0, 1) := by decide +kernel
theorem dX11_word_132 : decode cX11_word 132 = .ok (.getfield 140, 3) := by decide +kernel
theorem dX11_word_135 : decode cX11_word 135 = .ok (.iload_n 1, 1) := by decide +kernel
theorem dX11_word_136 : decode cX11_word 136 = .ok (.iastore, 1) := by decide +kernel
theorem dX11_word_137 : decode cX11_word 137 = .ok (.aload_n 0, 1) := by decide +kernel
theorem dX11_word_138 : decode cX11_word 138 = .ok (.aload_n 0, 1) := by decide +kernel
theorem dX11_word_139 : decode cX11_word 139 = .ok (.getfield 51, 3) := by decide +kernel
theorem dX11_word_142 : decode cX11_word 142 = .ok (.iconst 0, 1) := by decide +kernel
theorem dX11_word_143 : decode cX11_word 143 = .ok (.iload_n 2, 1) := by decide +kernel
theorem dX11_word_144 : decode cX11_word 144 = .ok (.aload_n 0, 1) := by decide +kernel
theorem dX11_word_145 : decode cX11_word 145 = .ok (.getfield 140, 3) := by decide +kernel
theorem dX11_word_148 : decode cX11_word 148 = .ok (.invokevirtual 143, 3) := by decide +kernel
theorem dX11_word_151 : decode cX11_word 151 = .ok (.aload_n 0, 1) := by decide +kernel
theorem dX11_word_152 : decode cX11_word 152 = .ok (.dup, 1) := by decide +kernel
theorem dX11_word_153 : decode cX11_word 153 = .ok (.getfield 140, 3) := by decide +kernel
theorem dX11_word_156 : decode cX11_word 156 = .ok (.iconst 1, 1) := by decide +kernel
theorem dX11_word_157 : decode cX11_word 157 = .ok (.iadd, 1) := by decide +kernel
theorem dX11_word_158 : decode cX11_word 158 = .ok (.putfield 140, 3) := by decide +kernel
theorem dX11_word_161 : decode cX11_word 161 = .ok (.aload_n 0, 1) := by decide +kernel
theorem dX11_word_162 : decode cX11_word 162 = .ok (.getfield 140, 3) := by decide +kernel
theorem dX11_word_165 : decode cX11_word 165 = .ok (.iconst 1, 1) := by decide +kernel
theorem dX11_word_166 : decode cX11_word 166 = .ok (.isub, 1) := by decide +kernel
theorem dX11_word_167 : decode cX11_word 167 = .ok (.ireturn, 1) := by decide +kernel
theorem dX11_is_0 : decode cX11_is 0 = .ok (.iload_n 1, 1) := by decide +kernel
theorem dX11_is_1 : decode cX11_is 1 = .ok (.iconst 0, 1) := by decide +kernel
theorem dX11_is_2 : decode cX11_is 2 = .ok (.aload_n 0, 1) := by decide +kernel
theorem dX11_is_3 : decode cX11_is 3 = .ok (.getfield 140, 3) := by decide +kernel
theorem dX11_is_6 : decode cX11_is 6 = .ok (.iconst 1, 1) := by decide +kernel
theorem dX11_is_7 : decode cX11_is 7 = .ok (.isub, 1) := by decide +kernel
theorem dX11_is_8 : decode cX11_is 8 = .ok (.invokestatic 120, 3) := by decide +kernel
theorem dX11_is_11 : decode cX11_is 11 = .ok (.ifCond .eq 17, 3) := by decide +kernel
theorem dX11_is_14 : decode cX11_is 14 = .ok (.aload_n 0, 1) := by decide +kernel
theorem dX11_is_15 : decode cX11_is 15 = .ok (.getfield 13, 3) := by decide +kernel
theorem dX11_is_18 : decode cX11_is 18 = .ok (.iload_n 1, 1) := by decide +kernel
theorem dX11_is_19 : decode cX11_is 19 = .ok (.iaload, 1) := by decide +kernel
theorem dX11_is_20 : decode cX11_is 20 = .ok (.iload_n 2, 1) := by decide +kernel
theorem dX11_is_21 : decode cX11_is 21 = .ok (.if_icmp .ne 7, 3) := by decide +kernel
theorem dX11_is_24 : decode cX11_is 24 = .ok (.iconst 1, 1) := by decide +kernel
theorem dX11_is_25 : decode cX11_is 25 = .ok (.goto 4, 3) := by decide +kernel
theorem dX11_is_28 : decode cX11_is 28 = .ok (.iconst 0, 1) := by decide +kernel
theorem dX11_is_29 : decode cX11_is 29 = .ok (.ireturn, 1) := by decide +kernel
theorem dX11_scope_0 : decode cX11_scope 0 = .ok (.aload_n 0, 1) := by decide +kernel
theorem dX11_scope_1 : decode cX11_scope 1 = .ok (.iconst 0, 1) := by decide +kernel
theorem dX11_scope_2 : decode cX11_scope 2 = .ok (.putfield 1, 3) := by decide +kernel
theorem dX11_scope_5 : decode cX11_scope 5 = .ok (.aload_n 0, 1) := by decide +kernel
theorem dX11_scope_6 : decode cX11_scope 6 = .ok (.iload_n 1, 1) := by decide +kernel
theorem dX11_scope_7 : decode cX11_scope 7 = .ok (.iconst 1, 1) := by decide +kernel
theorem dX11_scope_8 : decode cX11_scope 8 = .ok (.invokevirtual 147, 3) := by decide +kernel
theorem dX11_scope_11 : decode cX11_scope 11 = .ok (.ifCond .ne 6, 3) := by decide +kernel
theorem dX11_scope_14 : decode cX11_scope 14 = .ok (.bipush (-2), 2) := by decide +kernel
theorem dX11_scope_16 : decode cX11_scope 16 = .ok (.ireturn, 1) := by decide +kernel
theorem dX11_scope_17 : decode cX11_scope 17 = .ok (.aload_n 0, 1) := by decide +kernel
theorem dX11_scope_18 : decode cX11_scope 18 = .ok (.getfield 17, 3) := by decide +kernel
theorem dX11_scope_21 : decode cX11_scope 21 = .ok (.iload_n 1, 1) := by decide +kernel
theorem dX11_scope_22 : decode cX11_scope 22 = .ok (.baload, 1) := by decide +kernel
theorem dX11_scope_23 : decode cX11_scope 23 = .ok (.ifCond .eq 7, 3) := by decide +kernel
theorem dX11_scope_26 : decode cX11_scope 26 = .ok (.iconst 1, 1) := by decide +kernel
theorem dX11_scope_27 : decode cX11_scope 27 = .ok (.goto 4, 3) := by decide +kernel
theorem dX11_scope_30 : decode cX11_scope 30 = .ok (.iconst 0, 1) := by decide +kernel
theorem dX11_scope_31 : decode cX11_scope 31 = .ok (.istore_n 3, 1) := by decide +kernel
theorem dX11_scope_32 : decode cX11_scope 32 = .ok (.aload_n 0, 1) := by decide +kernel
theorem dX11_scope_33 : decode cX11_scope 33 = .ok (.getfield 17, 3) := by decide +kernel
theorem dX11_scope_36 : decode cX11_scope 36 = .ok (.iload_n 1, 1) := by decide +kernel
theorem dX11_scope_37 : decode cX11_scope 37 = .ok (.iload_n 2, 1) := by decide +kernel
theorem dX11_scope_38 : decode cX11_scope 38 = .ok (.bastore, 1) := by decide +kernel
theorem dX11_scope_39 : decode cX11_scope 39 = .ok (.iload_n 3, 1) := by decide +kernel
theorem dX11_scope_40 : decode cX11_scope 40 = .ok (.ireturn, 1) := by decide +kernel
theorem dX11_classes_0 : decode cX11_classes 0 = .ok (.aload_n 0, 1) := by decide +kernel
theorem dX11_classes_1 : decode cX11_classes 1 = .ok (.iconst 0, 1) := by decide +kernel
theorem dX11_classes_2 : decode cX11_classes 2 = .ok (.putfield 1, 3) := by decide +kernel
theorem dX11_classes_5 : decode cX11_classes 5 = .ok (.aload_n 0, 1) := by decide +kernel
theorem dX11_classes_6 : decode cX11_classes 6 = .ok (.iload_n 1, 1) := by decide +kernel
theorem dX11_classes_7 : decode cX11_classes 7 = .ok (.iconst 1, 1) := by decide +kernel
theorem dX11_classes_8 : decode cX11_classes 8 = .ok (.invokevirtual 147, 3) := by decide +kernel
theorem dX11_classes_11 : decode cX11_classes 11 = .ok (.ifCond .eq 14, 3) := by decide +kernel
theorem dX11_classes_14 : decode cX11_classes 14 = .ok (.iload_n 2, 1) := by decide +kernel
theorem dX11_classes_15 : decode cX11_classes 15 = .ok (.iconst 0, 1) := by decide +kernel
theorem dX11_classes_16 : decode cX11_classes 16 = .ok (.sipush 255, 3) := by decide +kernel
theorem dX11_classes_19 : decode cX11_classes 19 = .ok (.invokestatic 120, 3) := by decide +kernel
theorem dX11_classes_22 : decode cX11_classes 22 = .ok (.ifCond .ne 6, 3) := by decide +kernel
theorem dX11_classes_25 : decode cX11_classes 25 = .ok (.bipush (-2), 2) := by decide +kernel
theorem dX11_classes_27 : decode cX11_classes 27 = .ok (.ireturn, 1) := by decide +kernel
theorem dX11_classes_28 : decode cX11_classes 28 = .ok (.aload_n 0, 1) := by decide +kernel
theorem dX11_classes_29 : decode cX11_classes 29 = .ok (.getfield 24, 3) := by decide +kernel
theorem dX11_classes_32 : decode cX11_classes 32 = .ok (.iload_n 1, 1) := by decide +kernel
theorem dX11_classes_33 : decode cX11_classes 33 = .ok (.iaload, 1) := by decide +kernel
theorem dX11_classes_34 : decode cX11_classes 34 = .ok (.istore_n 3, 1) := by decide +kernel
theorem dX11_classes_35 : decode cX11_classes 35 = .ok (.aload_n 0, 1) := by decide +kernel
theorem dX11_classes_36 : decode cX11_classes 36 = .ok (.getfield 24, 3) := by decide +kernel
theorem dX11_classes_39 : decode cX11_classes 39 = .ok (.iload_n 1, 1) := by decide +kernel
theorem dX11_classes_40 : decode cX11_classes 40 = .ok (.iload_n 2, 1) := by decide +kernel
theorem dX11_classes_41 : decode cX11_classes 41 = .ok (.iastore, 1) := by decide +kernel
theorem dX11_classes_42 : decode cX11_classes 42 = .ok (.iload_n 3, 1) := by decide +kernel
theorem dX11_classes_43 : decode cX11_classes 43 = .ok (.ireturn, 1) := by decide +kernel
theorem dX11_danger_0 : decode cX11_danger 0 = .ok (.aload_n 0, 1) := by decide +kernel
theorem dX11_danger_1 : decode cX11_danger 1 = .ok (.iconst 0, 1) := by decide +kernel
theorem dX11_danger_2 : decode cX11_danger 2 = .ok (.putfield 1, 3) := by decide +kernel
theorem dX11_danger_5 : decode cX11_danger 5 = .ok (.aload_n 0, 1) := by decide +kernel
theorem dX11_danger_6 : decode cX11_danger 6 = .ok (.iload_n 1, 1) := by decide +kernel
theorem dX11_danger_7 : decode cX11_danger 7 = .ok (.iconst 0, 1) := by decide +kernel
theorem dX11_danger_8 : decode cX11_danger 8 = .ok (.invokevirtual 147, 3) := by decide +kernel
theorem dX11_danger_11 : decode cX11_danger 11 = .ok (.ifCond .ne 6, 3) := by decide +kernel
theorem dX11_danger_14 : decode cX11_danger 14 = .ok (.bipush (-2), 2) := by decide +kernel
theorem dX11_danger_16 : decode cX11_danger 16 = .ok (.ireturn, 1) := by decide +kernel
theorem dX11_danger_17 : decode cX11_danger 17 = .ok (.aload_n 0, 1) := by decide +kernel
theorem dX11_danger_18 : decode cX11_danger 18 = .ok (.getfield 21, 3) := by decide +kernel
theorem dX11_danger_21 : decode cX11_danger 21 = .ok (.iload_n 1, 1) := by decide +kernel
theorem dX11_danger_22 : decode cX11_danger 22 = .ok (.baload, 1) := by decide +kernel
theorem dX11_danger_23 : decode cX11_danger 23 = .ok (.ifCond .eq 7, 3) := by decide +kernel
theorem dX11_danger_26 : decode cX11_danger 26 = .ok (.iconst 1, 1) := by decide +kernel
theorem dX11_danger_27 : decode cX11_danger 27 = .ok (.goto 4, 3) := by decide +kernel
theorem dX11_danger_30 : decode cX11_danger 30 = .ok (.iconst 0, 1) := by decide +kernel
theorem dX11_danger_31 : decode cX11_danger 31 = .ok (.istore_n 3, 1) := by decide +kernel
theorem dX11_danger_32 : decode cX11_danger 32 = .ok (.aload_n 0, 1) := by decide +kernel
theorem dX11_danger_33 : decode cX11_danger 33 = .ok (.getfield 21, 3) := by decide +kernel
theorem dX11_danger_36 : decode cX11_danger 36 = .ok (.iload_n 1, 1) := by decide +kernel
theorem dX11_danger_37 : decode cX11_danger 37 = .ok (.iload_n 2, 1) := by decide +kernel
theorem dX11_danger_38 : decode cX11_danger 38 = .ok (.bastore, 1) := by decide +kernel
theorem dX11_danger_39 : decode cX11_danger 39 = .ok (.iload_n 3, 1) := by decide +kernel
theorem dX11_danger_40 : decode cX11_danger 40 = .ok (.ireturn, 1) := by decide +kernel
theorem dX11_rule_0 : decode cX11_rule 0 = .ok (.aload_n 0, 1) := by decide +kernel
theorem dX11_rule_1 : decode cX11_rule 1 = .ok (.iconst 0, 1) := by decide +kernel
theorem dX11_rule_2 : decode cX11_rule 2 = .ok (.putfield 1, 3) := by decide +kernel
theorem dX11_rule_5 : decode cX11_rule 5 = .ok (.aload_n 0, 1) := by decide +kernel
theorem dX11_rule_6 : decode cX11_rule 6 = .ok (.iload_n 1, 1) := by decide +kernel
theorem dX11_rule_7 : decode cX11_rule 7 = .ok (.iconst 0, 1) := by decide +kernel
theorem dX11_rule_8 : decode cX11_rule 8 = .ok (.invokevirtual 147, 3) := by decide +kernel
theorem dX11_rule_11 : decode cX11_rule 11 = .ok (.ifCond .ne 6, 3) := by decide +kernel
theorem dX11_rule_14 : decode cX11_rule 14 = .ok (.bipush (-2), 2) := by decide +kernel
theorem dX11_rule_16 : decode cX11_rule 16 = .ok (.ireturn, 1) := by decide +kernel
theorem dX11_rule_17 : decode cX11_rule 17 = .ok (.aload_n 0, 1) := by decide +kernel
theorem dX11_rule_18 : decode cX11_rule 18 = .ok (.getfield 151, 3) := by decide +kernel
theorem dX11_rule_21 : decode cX11_rule 21 = .ok (.bipush 40, 2) := by decide +kernel
theorem dX11_rule_23 : decode cX11_rule 23 = .ok (.if_icmp .ne 6, 3) := by decide +kernel
theorem dX11_rule_26 : decode cX11_rule 26 = .ok (.bipush (-4), 2) := by decide +kernel
theorem dX11_rule_28 : decode cX11_rule 28 = .ok (.ireturn, 1) := by decide +kernel
theorem dX11_rule_29 : decode cX11_rule 29 = .ok (.aload_n 0, 1) := by decide +kernel
theorem dX11_rule_30 : decode cX11_rule 30 = .ok (.getfield 36, 3) := by decide +kernel
theorem dX11_rule_33 : decode cX11_rule 33 = .ok (.aload_n 0, 1) := by decide +kernel
theorem dX11_rule_34 : decode cX11_rule 34 = .ok (.getfield 151, 3) := by decide +kernel
theorem dX11_rule_37 : decode cX11_rule 37 = .ok (.iload_n 1, 1) := by decide +kernel
theorem dX11_rule_38 : decode cX11_rule 38 = .ok (.iastore, 1) := by decide +kernel
theorem dX11_rule_39 : decode cX11_rule 39 = .ok (.aload_n 0, 1) := by decide +kernel
theorem dX11_rule_40 : decode cX11_rule 40 = .ok (.dup, 1) := by decide +kernel
theorem dX11_rule_41 : decode cX11_rule 41 = .ok (.getfield 151, 3) := by decide +kernel
theorem dX11_rule_44 : decode cX11_rule 44 = .ok (.iconst 1, 1) := by decide +kernel
theorem dX11_rule_45 : decode cX11_rule 45 = .ok (.iadd, 1) := by decide +kernel
theorem dX11_rule_46 : decode cX11_rule 46 = .ok (.putfield 151, 3) := by decide +kernel
theorem dX11_rule_49 : decode cX11_rule 49 = .ok (.aload_n 0, 1) := by decide +kernel
theorem dX11_rule_50 : decode cX11_rule 50 = .ok (.getfield 151, 3) := by decide +kernel
theorem dX11_rule_53 : decode cX11_rule 53 = .ok (.iconst 1, 1) := by decide +kernel
theorem dX11_rule_54 : decode cX11_rule 54 = .ok (.isub, 1) := by decide +kernel
theorem dX11_rule_55 : decode cX11_rule 55 = .ok (.ireturn, 1) := by decide +kernel
theorem dX11_token_0 : decode cX11_token 0 = .ok (.aload_n 0, 1) := by decide +kernel
theorem dX11_token_1 : decode cX11_token 1 = .ok (.iconst 0, 1) := by decide +kernel
theorem dX11_token_2 : decode cX11_token 2 = .ok (.putfield 1, 3) := by decide +kernel
theorem dX11_token_5 : decode cX11_token 5 = .ok (.iload_n 1, 1) := by decide +kernel
theorem dX11_token_6 : decode cX11_token 6 = .ok (.iconst 0, 1) := by decide +kernel
theorem dX11_token_7 : decode cX11_token 7 = .ok (.aload_n 0, 1) := by decide +kernel
theorem dX11_token_8 : decode cX11_token 8 = .ok (.getfield 151, 3) := by decide +kernel
theorem dX11_token_11 : decode cX11_token 11 = .ok (.iconst 1, 1) := by decide +kernel
theorem dX11_token_12 : decode cX11_token 12 = .ok (.isub, 1) := by decide +kernel
theorem dX11_token_13 : decode cX11_token 13 = .ok (.invokestatic 120, 3) := by decide +kernel
theorem dX11_token_16 : decode cX11_token 16 = .ok (.ifCond .eq 22, 3) := by decide +kernel
theorem dX11_token_19 : decode cX11_token 19 = .ok (.iload_n 2, 1) := by decide +kernel
theorem dX11_token_20 : decode cX11_token 20 = .ok (.bipush (-9), 2) := by decide +kernel
theorem dX11_token_22 : decode cX11_token 22 = .ok (.iconst (-1), 1) := by decide +kernel
theorem dX11_token_23 : decode cX11_token 23 = .ok (.invokestatic 120, 3) := by decide +kernel
theorem dX11_token_26 : decode cX11_token 26 = .ok (.ifCond .ne 15, 3) := by decide +kernel
theorem dX11_token_29 : decode cX11_token 29 = .ok (.aload_n 0, 1) := by decide +kernel
theorem dX11_token_30 : decode cX11_token 30 = .ok (.iload_n 2, 1) := by decide +kernel
theorem dX11_token_31 : decode cX11_token 31 = .ok (.iconst 2, 1) := by decide +kernel
theorem dX11_token_32 : decode cX11_token 32 = .ok (.invokevirtual 147, 3) := by decide +kernel
theorem dX11_token_35 : decode cX11_token 35 = .ok (.ifCond .ne 6, 3) := by decide +kernel
theorem dX11_token_38 : decode cX11_token 38 = .ok (.bipush (-2), 2) := by decide +kernel
theorem dX11_token_40 : decode cX11_token 40 = .ok (.ireturn, 1) := by decide +kernel
theorem dX11_token_41 : decode cX11_token 41 = .ok (.aload_n 0, 1) := by decide +kernel
theorem dX11_token_42 : decode cX11_token 42 = .ok (.getfield 42, 3) := by decide +kernel
theorem dX11_token_45 : decode cX11_token 45 = .ok (.iload_n 1, 1) := by decide +kernel
theorem dX11_token_46 : decode cX11_token 46 = .ok (.iaload, 1) := by decide +kernel
theorem dX11_token_47 : decode cX11_token 47 = .ok (.iconst 4, 1) := by decide +kernel
theorem dX11_token_48 : decode cX11_token 48 = .ok (.if_icmp .ne 6, 3) := by decide +kernel
theorem dX11_token_51 : decode cX11_token 51 = .ok (.bipush (-4), 2) := by decide +kernel
theorem dX11_token_53 : decode cX11_token 53 = .ok (.ireturn, 1) := by decide +kernel
theorem dX11_token_54 : decode cX11_token 54 = .ok (.aload_n 0, 1) := by decide +kernel
theorem dX11_token_55 : decode cX11_token 55 = .ok (.getfield 39, 3) := by decide +kernel
theorem dX11_token_58 : decode cX11_token 58 = .ok (.iconst 4, 1) := by decide +kernel
theorem dX11_token_59 : decode cX11_token 59 = .ok (.iload_n 1, 1) := by decide +kernel
theorem dX11_token_60 : decode cX11_token 60 = .ok (.imul, 1) := by decide +kernel
theorem dX11_token_61 : decode cX11_token 61 = .ok (.aload_n 0, 1) := by decide +kernel
theorem dX11_token_62 : decode cX11_token 62 = .ok (.getfield 42, 3) := by decide +kernel
theorem dX11_token_65 : decode cX11_token 65 = .ok (.iload_n 1, 1) := by decide +kernel
theorem dX11_token_66 : decode cX11_token 66 = .ok (.iaload, 1) := by decide +kernel
theorem dX11_token_67 : decode cX11_token 67 = .ok (.iadd, 1) := by decide +kernel
theorem dX11_token_68 : decode cX11_token 68 = .ok (.iload_n 2, 1) := by decide +kernel
theorem dX11_token_69 : decode cX11_token 69 = .ok (.iastore, 1) := by decide +kernel
theorem dX11_token_70 : decode cX11_token 70 = .ok (.aload_n 0, 1) := by decide +kernel
theorem dX11_token_71 : decode cX11_token 71 = .ok (.getfield 42, 3) := by decide +kernel
theorem dX11_token_74 : decode cX11_token 74 = .ok (.iload_n 1, 1) := by decide +kernel
theorem dX11_token_75 : decode cX11_token 75 = .ok (.dup2, 1) := by decide +kernel
theorem dX11_token_76 : decode cX11_token 76 = .ok (.iaload, 1) := by decide +kernel
theorem dX11_token_77 : decode cX11_token 77 = .ok (.iconst 1, 1) := by decide +kernel
theorem dX11_token_78 : decode cX11_token 78 = .ok (.iadd, 1) := by decide +kernel
theorem dX11_token_79 : decode cX11_token 79 = .ok (.iastore, 1) := by decide +kernel
theorem dX11_token_80 : decode cX11_token 80 = .ok (.aload_n 0, 1) := by decide +kernel
theorem dX11_token_81 : decode cX11_token 81 = .ok (.getfield 42, 3) := by decide +kernel
theorem dX11_token_84 : decode cX11_token 84 = .ok (.iload_n 1, 1) := by decide +kernel
theorem dX11_token_85 : decode cX11_token 85 = .ok (.iaload, 1) := by decide +kernel
theorem dX11_token_86 : decode cX11_token 86 = .ok (.ireturn, 1) := by decide +kernel
theorem dX11_setting_0 : decode cX11_setting 0 = .ok (.aload_n 0, 1) := by decide +kernel
theorem dX11_setting_1 : decode cX11_setting 1 = .ok (.iconst 0, 1) := by decide +kernel
theorem dX11_setting_2 : decode cX11_setting 2 = .ok (.putfield 1, 3) := by decide +kernel
theorem dX11_setting_5 : decode cX11_setting 5 = .ok (.iload_n 1, 1) := by decide +kernel
theorem dX11_setting_6 : decode cX11_setting 6 = .ok (.iconst 0, 1) := by decide +kernel
theorem dX11_setting_7 : decode cX11_setting 7 = .ok (.iconst 4, 1) := by decide +kernel
theorem dX11_setting_8 : decode cX11_setting 8 = .ok (.invokestatic 120, 3) := by decide +kernel
theorem dX11_setting_11 : decode cX11_setting 11 = .ok (.ifCond .ne 9, 3) := by decide +kernel
theorem dX11_setting_14 : decode cX11_setting 14 = .ok (.iload_n 1, 1) := by decide +kernel
theorem dX11_setting_15 : decode cX11_setting 15 = .ok (.bipush 8, 2) := by decide +kernel
theorem dX11_setting_17 : decode cX11_setting 17 = .ok (.if_icmp .ne 13, 3) := by decide +kernel
theorem dX11_setting_20 : decode cX11_setting 20 = .ok (.iload_n 2, 1) := by decide +kernel
theorem dX11_setting_21 : decode cX11_setting 21 = .ok (.iconst 1, 1) := by decide +kernel
theorem dX11_setting_22 : decode cX11_setting 22 = .ok (.bipush 9, 2) := by decide +kernel
theorem dX11_setting_24 : decode cX11_setting 24 = .ok (.invokestatic 120, 3) := by decide +kernel
theorem dX11_setting_27 : decode cX11_setting 27 = .ok (.goto 44, 3) := by decide +kernel
theorem dX11_setting_30 : decode cX11_setting 30 = .ok (.iload_n 1, 1) := by decide +kernel
theorem dX11_setting_31 : decode cX11_setting 31 = .ok (.iconst 5, 1) := by decide +kernel
theorem dX11_setting_32 : decode cX11_setting 32 = .ok (.if_icmp .ne 13, 3) := by decide +kernel
theorem dX11_setting_35 : decode cX11_setting 35 = .ok (.iload_n 2, 1) := by decide +kernel
theorem dX11_setting_36 : decode cX11_setting 36 = .ok (.iconst 0, 1) := by decide +kernel
theorem dX11_setting_37 : decode cX11_setting 37 = .ok (.bipush 60, 2) := by decide +kernel
theorem dX11_setting_39 : decode cX11_setting 39 = .ok (.invokestatic 120, 3) := by decide +kernel
theorem dX11_setting_42 : decode cX11_setting 42 = .ok (.goto 29, 3) := by decide +kernel
theorem dX11_setting_45 : decode cX11_setting 45 = .ok (.iload_n 1, 1) := by decide +kernel
theorem dX11_setting_46 : decode cX11_setting 46 = .ok (.bipush 6, 2) := by decide +kernel
theorem dX11_setting_48 : decode cX11_setting 48 = .ok (.if_icmp .eq 9, 3) := by decide +kernel
theorem dX11_setting_51 : decode cX11_setting 51 = .ok (.iload_n 1, 1) := by decide +kernel
theorem dX11_setting_52 : decode cX11_setting 52 = .ok (.bipush 7, 2) := by decide +kernel
theorem dX11_setting_54 : decode cX11_setting 54 = .ok (.if_icmp .ne 16, 3) := by decide +kernel
theorem dX11_setting_57 : decode cX11_setting 57 = .ok (.iload_n 2, 1) := by decide +kernel
theorem dX11_setting_58 : decode cX11_setting 58 = .ok (.iconst 0, 1) := by decide +kernel
theorem dX11_setting_59 : decode cX11_setting 59 = .ok (.iconst 1, 1) := by decide +kernel
theorem dX11_setting_60 : decode cX11_setting 60 = .ok (.invokestatic 120, 3) := by decide +kernel
theorem dX11_setting_63 : decode cX11_setting 63 = .ok (.ifCond .eq 7, 3) := by decide +kernel
theorem dX11_setting_66 : decode cX11_setting 66 = .ok (.iconst 1, 1) := by decide +kernel
theorem dX11_setting_67 : decode cX11_setting 67 = .ok (.goto 4, 3) := by decide +kernel
theorem dX11_setting_70 : decode cX11_setting 70 = .ok (.iconst 0, 1) := by decide +kernel
theorem dX11_setting_71 : decode cX11_setting 71 = .ok (.istore_n 3, 1) := by decide +kernel
theorem dX11_setting_72 : decode cX11_setting 72 = .ok (.iload_n 3, 1) := by decide +kernel
theorem dX11_setting_73 : decode cX11_setting 73 = .ok (.ifCond .ne 6, 3) := by decide +kernel
theorem dX11_setting_76 : decode cX11_setting 76 = .ok (.bipush (-2), 2) := by decide +kernel
theorem dX11_setting_78 : decode cX11_setting 78 = .ok (.ireturn, 1) := by decide +kernel
theorem dX11_setting_79 : decode cX11_setting 79 = .ok (.aload_n 0, 1) := by decide +kernel
theorem dX11_setting_80 : decode cX11_setting 80 = .ok (.getfield 45, 3) := by decide +kernel
theorem dX11_setting_83 : decode cX11_setting 83 = .ok (.iload_n 1, 1) := by decide +kernel
theorem dX11_setting_84 : decode cX11_setting 84 = .ok (.iaload, 1) := by decide +kernel
theorem dX11_setting_85 : decode cX11_setting 85 = .ok (.istore 4, 2) := by decide +kernel
theorem dX11_setting_87 : decode cX11_setting 87 = .ok (.aload_n 0, 1) := by decide +kernel
theorem dX11_setting_88 : decode cX11_setting 88 = .ok (.getfield 45, 3) := by decide +kernel
theorem dX11_setting_91 : decode cX11_setting 91 = .ok (.iload_n 1, 1) := by decide +kernel
theorem dX11_setting_92 : decode cX11_setting 92 = .ok (.iload_n 2, 1) := by decide +kernel
theorem dX11_setting_93 : decode cX11_setting 93 = .ok (.iastore, 1) := by decide +kernel
theorem dX11_setting_94 : decode cX11_setting 94 = .ok (.iload 4, 2) := by decide +kernel
theorem dX11_setting_96 : decode cX11_setting 96 = .ok (.ireturn, 1) := by decide +kernel
theorem dX11_near_0 : decode cX11_near 0 = .ok (.aload_n 0, 1) := by decide +kernel
theorem dX11_near_1 : decode cX11_near 1 = .ok (.iconst 0, 1) := by decide +kernel
theorem dX11_near_2 : decode cX11_near 2 = .ok (.putfield 1, 3) := by decide +kernel
theorem dX11_near_5 : decode cX11_near 5 = .ok (.iload_n 1, 1) := by decide +kernel
theorem dX11_near_6 : decode cX11_near 6 = .ok (.iconst 0, 1) := by decide +kernel
theorem dX11_near_7 : decode cX11_near 7 = .ok (.bipush 25, 2) := by decide +kernel
theorem dX11_near_9 : decode cX11_near 9 = .ok (.invokestatic 120, 3) := by decide +kernel
theorem dX11_near_12 : decode cX11_near 12 = .ok (.ifCond .eq 18, 3) := by decide +kernel
theorem dX11_near_15 : decode cX11_near 15 = .ok (.iload_n 2, 1) := by decide +kernel
theorem dX11_near_16 : decode cX11_near 16 = .ok (.iconst 0, 1) := by decide +kernel
theorem dX11_near_17 : decode cX11_near 17 = .ok (.bipush 25, 2) := by decide +kernel
theorem dX11_near_19 : decode cX11_near 19 = .ok (.invokestatic 120, 3) := by decide +kernel
theorem dX11_near_22 : decode cX11_near 22 = .ok (.ifCond .eq 8, 3) := by decide +kernel
theorem dX11_near_25 : decode cX11_near 25 = .ok (.iload_n 1, 1) := by decide +kernel
theorem dX11_near_26 : decode cX11_near 26 = .ok (.iload_n 2, 1) := by decide +kernel
theorem dX11_near_27 : decode cX11_near 27 = .ok (.if_icmp .ne 6, 3) := by decide +kernel
theorem dX11_near_30 : decode cX11_near 30 = .ok (.bipush (-2), 2) := by decide +kernel
theorem dX11_near_32 : decode cX11_near 32 = .ok (.ireturn, 1) := by decide +kernel
theorem dX11_near_33 : decode cX11_near 33 = .ok (.aload_n 0, 1) := by decide +kernel
theorem dX11_near_34 : decode cX11_near 34 = .ok (.getfield 48, 3) := by decide +kernel
theorem dX11_near_37 : decode cX11_near 37 = .ok (.bipush 26, 2) := by decide +kernel
theorem dX11_near_39 : decode cX11_near 39 = .ok (.iload_n 1, 1) := by decide +kernel
theorem dX11_near_40 : decode cX11_near 40 = .ok (.imul, 1) := by decide +kernel
theorem dX11_near_41 : decode cX11_near 41 = .ok (.iload_n 2, 1) := by decide +kernel
theorem dX11_near_42 : decode cX11_near 42 = .ok (.iadd, 1) := by decide +kernel
theorem dX11_near_43 : decode cX11_near 43 = .ok (.baload, 1) := by decide +kernel
theorem dX11_near_44 : decode cX11_near 44 = .ok (.ifCond .eq 7, 3) := by decide +kernel
theorem dX11_near_47 : decode cX11_near 47 = .ok (.iconst 0, 1) := by decide +kernel
theorem dX11_near_48 : decode cX11_near 48 = .ok (.goto 4, 3) := by decide +kernel
theorem dX11_near_51 : decode cX11_near 51 = .ok (.iconst 1, 1) := by decide +kernel
theorem dX11_near_52 : decode cX11_near 52 = .ok (.istore_n 3, 1) := by decide +kernel
theorem dX11_near_53 : decode cX11_near 53 = .ok (.aload_n 0, 1) := by decide +kernel
theorem dX11_near_54 : decode cX11_near 54 = .ok (.getfield 48, 3) := by decide +kernel
theorem dX11_near_57 : decode cX11_near 57 = .ok (.bipush 26, 2) := by decide +kernel
theorem dX11_near_59 : decode cX11_near 59 = .ok (.iload_n 1, 1) := by decide +kernel
theorem dX11_near_60 : decode cX11_near 60 = .ok (.imul, 1) := by decide +kernel
theorem dX11_near_61 : decode cX11_near 61 = .ok (.iload_n 2, 1) := by decide +kernel
theorem dX11_near_62 : decode cX11_near 62 = .ok (.iadd, 1) := by decide +kernel
theorem dX11_near_63 : decode cX11_near 63 = .ok (.iconst 1, 1) := by decide +kernel
theorem dX11_near_64 : decode cX11_near 64 = .ok (.bastore, 1) := by decide +kernel
theorem dX11_near_65 : decode cX11_near 65 = .ok (.aload_n 0, 1) := by decide +kernel
theorem dX11_near_66 : decode cX11_near 66 = .ok (.getfield 48, 3) := by decide +kernel
theorem dX11_near_69 : decode cX11_near 69 = .ok (.bipush 26, 2) := by decide +kernel
theorem dX11_near_71 : decode cX11_near 71 = .ok (.iload_n 2, 1) := by decide +kernel
theorem dX11_near_72 : decode cX11_near 72 = .ok (.imul, 1) := by decide +kernel
theorem dX11_near_73 : decode cX11_near 73 = .ok (.iload_n 1, 1) := by decide +kernel
theorem dX11_near_74 : decode cX11_near 74 = .ok (.iadd, 1) := by decide +kernel
theorem dX11_near_75 : decode cX11_near 75 = .ok (.iconst 1, 1) := by decide +kernel
theorem dX11_near_76 : decode cX11_near 76 = .ok (.bastore, 1) := by decide +kernel
theorem dX11_near_77 : decode cX11_near 77 = .ok (.iload_n 3, 1) := by decide +kernel
theorem dX11_near_78 : decode cX11_near 78 = .ok (.ireturn, 1) := by decide +kernel
theorem dX11_runsOf_0 : decode cX11_runsOf 0 = .ok (.iconst 0, 1) := by decide +kernel
theorem dX11_runsOf_1 : decode cX11_runsOf 1 = .ok (.istore_n 2, 1) := by decide +kernel
theorem dX11_runsOf_2 : decode cX11_runsOf 2 = .ok (.iconst 0, 1) := by decide +kernel
theorem dX11_runsOf_3 : decode cX11_runsOf 3 = .ok (.istore_n 3, 1) := by decide +kernel
theorem dX11_runsOf_4 : decode cX11_runsOf 4 = .ok (.iload_n 3, 1) := by decide +kernel
theorem dX11_runsOf_5 : decode cX11_runsOf 5 = .ok (.iload_n 1, 1) := by decide +kernel
theorem dX11_runsOf_6 : decode cX11_runsOf 6 = .ok (.if_icmp .ge 41, 3) := by decide +kernel
theorem dX11_runsOf_9 : decode cX11_runsOf 9 = .ok (.iload_n 2, 1) := by decide +kernel
theorem dX11_runsOf_10 : decode cX11_runsOf 10 = .ok (.aload_n 0, 1) := by decide +kernel
theorem dX11_runsOf_11 : decode cX11_runsOf 11 = .ok (.iload_n 3, 1) := by decide +kernel
theorem dX11_runsOf_12 : decode cX11_runsOf 12 = .ok (.iaload, 1) := by decide +kernel
theorem dX11_runsOf_13 : decode cX11_runsOf 13 = .ok (.invokestatic 154, 3) := by decide +kernel
theorem dX11_runsOf_16 : decode cX11_runsOf 16 = .ok (.ifCond .eq 22, 3) := by decide +kernel
theorem dX11_runsOf_19 : decode cX11_runsOf 19 = .ok (.iload_n 3, 1) := by decide +kernel
theorem dX11_runsOf_20 : decode cX11_runsOf 20 = .ok (.ifCond .eq 14, 3) := by decide +kernel
theorem dX11_runsOf_23 : decode cX11_runsOf 23 = .ok (.aload_n 0, 1) := by decide +kernel
theorem dX11_runsOf_24 : decode cX11_runsOf 24 = .ok (.iload_n 3, 1) := by decide +kernel
theorem dX11_runsOf_25 : decode cX11_runsOf 25 = .ok (.iconst 1, 1) := by decide +kernel
theorem dX11_runsOf_26 : decode cX11_runsOf 26 = .ok (.isub, 1) := by decide +kernel
theorem dX11_runsOf_27 : decode cX11_runsOf 27 = .ok (.iaload, 1) := by decide +kernel
theorem dX11_runsOf_28 : decode cX11_runsOf 28 = .ok (.invokestatic 154, 3) := by decide +kernel
theorem dX11_runsOf_31 : decode cX11_runsOf 31 = .ok (.ifCond .ne 7, 3) := by decide +kernel
theorem dX11_runsOf_34 : decode cX11_runsOf 34 = .ok (.iconst 1, 1) := by decide +kernel
theorem dX11_runsOf_35 : decode cX11_runsOf 35 = .ok (.goto 4, 3) := by decide +kernel
theorem dX11_runsOf_38 : decode cX11_runsOf 38 = .ok (.iconst 0, 1) := by decide +kernel
theorem dX11_runsOf_39 : decode cX11_runsOf 39 = .ok (.iadd, 1) := by decide +kernel
theorem dX11_runsOf_40 : decode cX11_runsOf 40 = .ok (.istore_n 2, 1) := by decide +kernel
theorem dX11_runsOf_41 : decode cX11_runsOf 41 = .ok (.iinc 3 1, 3) := by decide +kernel
theorem dX11_runsOf_44 : decode cX11_runsOf 44 = .ok (.goto (-40), 3) := by decide +kernel
theorem dX11_runsOf_47 : decode cX11_runsOf 47 = .ok (.iload_n 2, 1) := by decide +kernel
theorem dX11_runsOf_48 : decode cX11_runsOf 48 = .ok (.ireturn, 1) := by decide +kernel
theorem dX11_part_0 : decode cX11_part 0 = .ok (.aload_n 0, 1) := by decide +kernel
theorem dX11_part_1 : decode cX11_part 1 = .ok (.iconst 0, 1) := by decide +kernel
theorem dX11_part_2 : decode cX11_part 2 = .ok (.putfield 158, 3) := by decide +kernel
theorem dX11_part_5 : decode cX11_part 5 = .ok (.iconst 0, 1) := by decide +kernel
theorem dX11_part_6 : decode cX11_part 6 = .ok (.istore_n 1, 1) := by decide +kernel
theorem dX11_part_7 : decode cX11_part 7 = .ok (.iload_n 1, 1) := by decide +kernel
theorem dX11_part_8 : decode cX11_part 8 = .ok (.aload_n 0, 1) := by decide +kernel
theorem dX11_part_9 : decode cX11_part 9 = .ok (.getfield 161, 3) := by decide +kernel
theorem dX11_part_12 : decode cX11_part 12 = .ok (.if_icmp .ge 125, 3) := by decide +kernel
theorem dX11_part_15 : decode cX11_part 15 = .ok (.aload_n 0, 1) := by decide +kernel
theorem dX11_part_16 : decode cX11_part 16 = .ok (.getfield 54, 3) := by decide +kernel
theorem dX11_part_19 : decode cX11_part 19 = .ok (.iload_n 1, 1) := by decide +kernel
theorem dX11_part_20 : decode cX11_part 20 = .ok (.iaload, 1) := by decide +kernel
theorem dX11_part_21 : decode cX11_part 21 = .ok (.invokestatic 154, 3) := by decide +kernel
theorem dX11_part_24 : decode cX11_part 24 = .ok (.ifCond .eq 107, 3) := by decide +kernel
theorem dX11_part_27 : decode cX11_part 27 = .ok (.aload_n 0, 1) := by decide +kernel
theorem dX11_part_28 : decode cX11_part 28 = .ok (.getfield 63, 3) := by decide +kernel
theorem dX11_part_31 : decode cX11_part 31 = .ok (.aload_n 0, 1) := by decide +kernel
theorem dX11_part_32 : decode cX11_part 32 = .ok (.getfield 158, 3) := by decide +kernel
theorem dX11_part_35 : decode cX11_part 35 = .ok (.iload_n 1, 1) := by decide +kernel
theorem dX11_part_36 : decode cX11_part 36 = .ok (.iastore, 1) := by decide +kernel
theorem dX11_part_37 : decode cX11_part 37 = .ok (.iload_n 1, 1) := by decide +kernel
theorem dX11_part_38 : decode cX11_part 38 = .ok (.aload_n 0, 1) := by decide +kernel
theorem dX11_part_39 : decode cX11_part 39 = .ok (.getfield 161, 3) := by decide +kernel
theorem dX11_part_42 : decode cX11_part 42 = .ok (.if_icmp .ge 21, 3) := by decide +kernel
theorem dX11_part_45 : decode cX11_part 45 = .ok (.aload_n 0, 1) := by decide +kernel
theorem dX11_part_46 : decode cX11_part 46 = .ok (.getfield 54, 3) := by decide +kernel
theorem dX11_part_49 : decode cX11_part 49 = .ok (.iload_n 1, 1) := by decide +kernel
theorem dX11_part_50 : decode cX11_part 50 = .ok (.iaload, 1) := by decide +kernel
theorem dX11_part_51 : decode cX11_part 51 = .ok (.invokestatic 154, 3) := by decide +kernel
theorem dX11_part_54 : decode cX11_part 54 = .ok (.ifCond .eq 9, 3) := by decide +kernel
theorem dX11_part_57 : decode cX11_part 57 = .ok (.iinc 1 1, 3) := by decide +kernel
theorem dX11_part_60 : decode cX11_part 60 = .ok (.goto (-23), 3) := by decide +kernel
theorem dX11_part_63 : decode cX11_part 63 = .ok (.aload_n 0, 1) := by decide +kernel
theorem dX11_part_64 : decode cX11_part 64 = .ok (.getfield 66, 3) := by decide +kernel
theorem dX11_part_67 : decode cX11_part 67 = .ok (.aload_n 0, 1) := by decide +kernel
theorem dX11_part_68 : decode cX11_part 68 = .ok (.getfield 158, 3) := by decide +kernel
theorem dX11_part_71 : decode cX11_part 71 = .ok (.iload_n 1, 1) := by decide +kernel
theorem dX11_part_72 : decode cX11_part 72 = .ok (.aload_n 0, 1) := by decide +kernel
theorem dX11_part_73 : decode cX11_part 73 = .ok (.getfield 63, 3) := by decide +kernel
theorem dX11_part_76 : decode cX11_part 76 = .ok (.aload_n 0, 1) := by decide +kernel
theorem dX11_part_77 : decode cX11_part 77 = .ok (.getfield 158, 3) := by decide +kernel
theorem dX11_part_80 : decode cX11_part 80 = .ok (.iaload, 1) := by decide +kernel
theorem dX11_part_81 : decode cX11_part 81 = .ok (.isub, 1) := by decide +kernel
theorem dX11_part_82 : decode cX11_part 82 = .ok (.iastore, 1) := by decide +kernel
theorem dX11_part_83 : decode cX11_part 83 = .ok (.aload_n 0, 1) := by decide +kernel
theorem dX11_part_84 : decode cX11_part 84 = .ok (.getfield 69, 3) := by decide +kernel
theorem dX11_part_87 : decode cX11_part 87 = .ok (.aload_n 0, 1) := by decide +kernel
theorem dX11_part_88 : decode cX11_part 88 = .ok (.getfield 158, 3) := by decide +kernel
theorem dX11_part_91 : decode cX11_part 91 = .ok (.aload_n 0, 1) := by decide +kernel
theorem dX11_part_92 : decode cX11_part 92 = .ok (.aload_n 0, 1) := by decide +kernel
theorem dX11_part_93 : decode cX11_part 93 = .ok (.getfield 54, 3) := by decide +kernel
theorem dX11_part_96 : decode cX11_part 96 = .ok (.aload_n 0, 1) := by decide +kernel
theorem dX11_part_97 : decode cX11_part 97 = .ok (.getfield 63, 3) := by decide +kernel
theorem dX11_part_100 : decode cX11_part 100 = .ok (.aload_n 0, 1) := by decide +kernel
theorem dX11_part_101 : decode cX11_part 101 = .ok (.getfield 158, 3) := by decide +kernel
theorem dX11_part_104 : decode cX11_part 104 = .ok (.iaload, 1) := by decide +kernel
theorem dX11_part_105 : decode cX11_part 105 = .ok (.aload_n 0, 1) := by decide +kernel
theorem dX11_part_106 : decode cX11_part 106 = .ok (.getfield 66, 3) := by decide +kernel
theorem dX11_part_109 : decode cX11_part 109 = .ok (.aload_n 0, 1) := by decide +kernel
theorem dX11_part_110 : decode cX11_part 110 = .ok (.getfield 158, 3) := by decide +kernel
theorem dX11_part_113 : decode cX11_part 113 = .ok (.iaload, 1) := by decide +kernel
theorem dX11_part_114 : decode cX11_part 114 = .ok (.invokevirtual 136, 3) := by decide +kernel
theorem dX11_part_117 : decode cX11_part 117 = .ok (.iastore, 1) := by decide +kernel
theorem dX11_part_118 : decode cX11_part 118 = .ok (.aload_n 0, 1) := by decide +kernel
theorem dX11_part_119 : decode cX11_part 119 = .ok (.dup, 1) := by decide +kernel
theorem dX11_part_120 : decode cX11_part 120 = .ok (.getfield 158, 3) := by decide +kernel
theorem dX11_part_123 : decode cX11_part 123 = .ok (.iconst 1, 1) := by decide +kernel
theorem dX11_part_124 : decode cX11_part 124 = .ok (.iadd, 1) := by decide +kernel
theorem dX11_part_125 : decode cX11_part 125 = .ok (.putfield 158, 3) := by decide +kernel
theorem dX11_part_128 : decode cX11_part 128 = .ok (.goto (-121), 3) := by decide +kernel
theorem dX11_part_131 : decode cX11_part 131 = .ok (.iinc 1 1, 3) := by decide +kernel
theorem dX11_part_134 : decode cX11_part 134 = .ok (.goto (-127), 3) := by decide +kernel
theorem dX11_part_137 : decode cX11_part 137 = .ok (.return_, 1) := by decide +kernel
theorem dX11_line_0 : decode cX11_line 0 = .ok (.aload_n 0, 1) := by decide +kernel
theorem dX11_line_1 : decode cX11_line 1 = .ok (.iconst 0, 1) := by decide +kernel
theorem dX11_line_2 : decode cX11_line 2 = .ok (.putfield 1, 3) := by decide +kernel
theorem dX11_line_5 : decode cX11_line 5 = .ok (.aload_n 0, 1) := by decide +kernel
theorem dX11_line_6 : decode cX11_line 6 = .ok (.getfield 131, 3) := by decide +kernel
theorem dX11_line_9 : decode cX11_line 9 = .ok (.istore_n 1, 1) := by decide +kernel
theorem dX11_line_10 : decode cX11_line 10 = .ok (.aload_n 0, 1) := by decide +kernel
theorem dX11_line_11 : decode cX11_line 11 = .ok (.iconst 0, 1) := by decide +kernel
theorem dX11_line_12 : decode cX11_line 12 = .ok (.putfield 131, 3) := by decide +kernel
theorem dX11_line_15 : decode cX11_line 15 = .ok (.aload_n 0, 1) := by decide +kernel
theorem dX11_line_16 : decode cX11_line 16 = .ok (.getfield 51, 3) := by decide +kernel
theorem dX11_line_19 : decode cX11_line 19 = .ok (.iload_n 1, 1) := by decide +kernel
theorem dX11_line_20 : decode cX11_line 20 = .ok (.invokestatic 164, 3) := by decide +kernel
theorem dX11_line_23 : decode cX11_line 23 = .ok (.istore_n 2, 1) := by decide +kernel
theorem dX11_line_24 : decode cX11_line 24 = .ok (.iload_n 2, 1) := by decide +kernel
theorem dX11_line_25 : decode cX11_line 25 = .ok (.bipush 10, 2) := by decide +kernel
theorem dX11_line_27 : decode cX11_line 27 = .ok (.if_icmp .le 6, 3) := by decide +kernel
theorem dX11_line_30 : decode cX11_line 30 = .ok (.bipush (-4), 2) := by decide +kernel
theorem dX11_line_32 : decode cX11_line 32 = .ok (.ireturn, 1) := by decide +kernel
theorem dX11_line_33 : decode cX11_line 33 = .ok (.iconst 0, 1) := by decide +kernel
theorem dX11_line_34 : decode cX11_line 34 = .ok (.istore_n 3, 1) := by decide +kernel
theorem dX11_line_35 : decode cX11_line 35 = .ok (.iload_n 3, 1) := by decide +kernel
theorem dX11_line_36 : decode cX11_line 36 = .ok (.iload_n 1, 1) := by decide +kernel
theorem dX11_line_37 : decode cX11_line 37 = .ok (.if_icmp .ge 21, 3) := by decide +kernel
theorem dX11_line_40 : decode cX11_line 40 = .ok (.aload_n 0, 1) := by decide +kernel
theorem dX11_line_41 : decode cX11_line 41 = .ok (.getfield 54, 3) := by decide +kernel
theorem dX11_line_44 : decode cX11_line 44 = .ok (.iload_n 3, 1) := by decide +kernel
theorem dX11_line_45 : decode cX11_line 45 = .ok (.aload_n 0, 1) := by decide +kernel
theorem dX11_line_46 : decode cX11_line 46 = .ok (.getfield 51, 3) := by decide +kernel
theorem dX11_line_49 : decode cX11_line 49 = .ok (.iload_n 3, 1) := by decide +kernel
theorem dX11_line_50 : decode cX11_line 50 = .ok (.iaload, 1) := by decide +kernel
theorem dX11_line_51 : decode cX11_line 51 = .ok (.iastore, 1) := by decide +kernel
theorem dX11_line_52 : decode cX11_line 52 = .ok (.iinc 3 1, 3) := by decide +kernel
theorem dX11_line_55 : decode cX11_line 55 = .ok (.goto (-20), 3) := by decide +kernel
theorem dX11_line_58 : decode cX11_line 58 = .ok (.aload_n 0, 1) := by decide +kernel
theorem dX11_line_59 : decode cX11_line 59 = .ok (.iload_n 1, 1) := by decide +kernel
theorem dX11_line_60 : decode cX11_line 60 = .ok (.putfield 161, 3) := by decide +kernel
theorem dX11_line_63 : decode cX11_line 63 = .ok (.aload_n 0, 1) := by decide +kernel
theorem dX11_line_64 : decode cX11_line 64 = .ok (.iconst (-1), 1) := by decide +kernel
theorem dX11_line_65 : decode cX11_line 65 = .ok (.putfield 60, 3) := by decide +kernel
theorem dX11_line_68 : decode cX11_line 68 = .ok (.iload_n 2, 1) := by decide +kernel
theorem dX11_line_69 : decode cX11_line 69 = .ok (.ireturn, 1) := by decide +kernel
theorem dX11_at_0 : decode cX11_at 0 = .ok (.aload_n 0, 1) := by decide +kernel
theorem dX11_at_1 : decode cX11_at 1 = .ok (.iconst 0, 1) := by decide +kernel
theorem dX11_at_2 : decode cX11_at 2 = .ok (.putfield 1, 3) := by decide +kernel
theorem dX11_at_5 : decode cX11_at 5 = .ok (.iload_n 1, 1) := by decide +kernel
theorem dX11_at_6 : decode cX11_at 6 = .ok (.iconst 0, 1) := by decide +kernel
theorem dX11_at_7 : decode cX11_at 7 = .ok (.aload_n 0, 1) := by decide +kernel
theorem dX11_at_8 : decode cX11_at 8 = .ok (.getfield 161, 3) := by decide +kernel
theorem dX11_at_11 : decode cX11_at 11 = .ok (.iconst 1, 1) := by decide +kernel
theorem dX11_at_12 : decode cX11_at 12 = .ok (.isub, 1) := by decide +kernel
theorem dX11_at_13 : decode cX11_at 13 = .ok (.invokestatic 120, 3) := by decide +kernel
theorem dX11_at_16 : decode cX11_at 16 = .ok (.ifCond .eq 12, 3) := by decide +kernel
theorem dX11_at_19 : decode cX11_at 19 = .ok (.aload_n 0, 1) := by decide +kernel
theorem dX11_at_20 : decode cX11_at 20 = .ok (.getfield 54, 3) := by decide +kernel
theorem dX11_at_23 : decode cX11_at 23 = .ok (.iload_n 1, 1) := by decide +kernel
theorem dX11_at_24 : decode cX11_at 24 = .ok (.iaload, 1) := by decide +kernel
theorem dX11_at_25 : decode cX11_at 25 = .ok (.goto 4, 3) := by decide +kernel
theorem dX11_at_28 : decode cX11_at 28 = .ok (.iconst (-1), 1) := by decide +kernel
theorem dX11_at_29 : decode cX11_at 29 = .ok (.ireturn, 1) := by decide +kernel
theorem dX11_typed_0 : decode cX11_typed 0 = .ok (.aload_n 0, 1) := by decide +kernel
theorem dX11_typed_1 : decode cX11_typed 1 = .ok (.iconst 0, 1) := by decide +kernel
theorem dX11_typed_2 : decode cX11_typed 2 = .ok (.putfield 1, 3) := by decide +kernel
theorem dX11_typed_5 : decode cX11_typed 5 = .ok (.aload_n 0, 1) := by decide +kernel
theorem dX11_typed_6 : decode cX11_typed 6 = .ok (.invokevirtual 168, 3) := by decide +kernel
theorem dX11_typed_9 : decode cX11_typed 9 = .ok (.iload_n 1, 1) := by decide +kernel
theorem dX11_typed_10 : decode cX11_typed 10 = .ok (.iconst 0, 1) := by decide +kernel
theorem dX11_typed_11 : decode cX11_typed 11 = .ok (.aload_n 0, 1) := by decide +kernel
theorem dX11_typed_12 : decode cX11_typed 12 = .ok (.getfield 158, 3) := by decide +kernel
theorem dX11_typed_15 : decode cX11_typed 15 = .ok (.iconst 1, 1) := by decide +kernel
theorem dX11_typed_16 : decode cX11_typed 16 = .ok (.isub, 1) := by decide +kernel
theorem dX11_typed_17 : decode cX11_typed 17 = .ok (.invokestatic 120, 3) := by decide +kernel
theorem dX11_typed_20 : decode cX11_typed 20 = .ok (.ifCond .eq 12, 3) := by decide +kernel
theorem dX11_typed_23 : decode cX11_typed 23 = .ok (.iload_n 2, 1) := by decide +kernel
theorem dX11_typed_24 : decode cX11_typed 24 = .ok (.iconst 0, 1) := by decide +kernel
theorem dX11_typed_25 : decode cX11_typed 25 = .ok (.iconst 2, 1) := by decide +kernel
theorem dX11_typed_26 : decode cX11_typed 26 = .ok (.invokestatic 120, 3) := by decide +kernel
theorem dX11_typed_29 : decode cX11_typed 29 = .ok (.ifCond .ne 6, 3) := by decide +kernel
theorem dX11_typed_32 : decode cX11_typed 32 = .ok (.bipush (-2), 2) := by decide +kernel
theorem dX11_typed_34 : decode cX11_typed 34 = .ok (.ireturn, 1) := by decide +kernel
theorem dX11_typed_35 : decode cX11_typed 35 = .ok (.iload_n 2, 1) := by decide +kernel
theorem dX11_typed_36 : decode cX11_typed 36 = .ok (.ifCond .ne 12, 3) := by decide +kernel
theorem dX11_typed_39 : decode cX11_typed 39 = .ok (.aload_n 0, 1) := by decide +kernel
theorem dX11_typed_40 : decode cX11_typed 40 = .ok (.getfield 63, 3) := by decide +kernel
theorem dX11_typed_43 : decode cX11_typed 43 = .ok (.iload_n 1, 1) := by decide +kernel
theorem dX11_typed_44 : decode cX11_typed 44 = .ok (.iaload, 1) := by decide +kernel
theorem dX11_typed_45 : decode cX11_typed 45 = .ok (.goto 23, 3) := by decide +kernel
theorem dX11_typed_48 : decode cX11_typed 48 = .ok (.iload_n 2, 1) := by decide +kernel
theorem dX11_typed_49 : decode cX11_typed 49 = .ok (.iconst 1, 1) := by decide +kernel
theorem dX11_typed_50 : decode cX11_typed 50 = .ok (.if_icmp .ne 12, 3) := by decide +kernel
theorem dX11_typed_53 : decode cX11_typed 53 = .ok (.aload_n 0, 1) := by decide +kernel
theorem dX11_typed_54 : decode cX11_typed 54 = .ok (.getfield 66, 3) := by decide +kernel
theorem dX11_typed_57 : decode cX11_typed 57 = .ok (.iload_n 1, 1) := by decide +kernel
theorem dX11_typed_58 : decode cX11_typed 58 = .ok (.iaload, 1) := by decide +kernel
theorem dX11_typed_59 : decode cX11_typed 59 = .ok (.goto 9, 3) := by decide +kernel
theorem dX11_typed_62 : decode cX11_typed 62 = .ok (.aload_n 0, 1) := by decide +kernel
theorem dX11_typed_63 : decode cX11_typed 63 = .ok (.getfield 69, 3) := by decide +kernel
theorem dX11_typed_66 : decode cX11_typed 66 = .ok (.iload_n 1, 1) := by decide +kernel
theorem dX11_typed_67 : decode cX11_typed 67 = .ok (.iaload, 1) := by decide +kernel
theorem dX11_typed_68 : decode cX11_typed 68 = .ok (.ireturn, 1) := by decide +kernel
theorem dX11_isAs_0 : decode cX11_isAs 0 = .ok (.iload_n 2, 1) := by decide +kernel
theorem dX11_isAs_1 : decode cX11_isAs 1 = .ok (.ifCond .lt 14, 3) := by decide +kernel
theorem dX11_isAs_4 : decode cX11_isAs 4 = .ok (.iload_n 1, 1) := by decide +kernel
theorem dX11_isAs_5 : decode cX11_isAs 5 = .ok (.iload_n 2, 1) := by decide +kernel
theorem dX11_isAs_6 : decode cX11_isAs 6 = .ok (.if_icmp .ne 7, 3) := by decide +kernel
theorem dX11_isAs_9 : decode cX11_isAs 9 = .ok (.iconst 1, 1) := by decide +kernel
theorem dX11_isAs_10 : decode cX11_isAs 10 = .ok (.goto 4, 3) := by decide +kernel
theorem dX11_isAs_13 : decode cX11_isAs 13 = .ok (.iconst 0, 1) := by decide +kernel
theorem dX11_isAs_14 : decode cX11_isAs 14 = .ok (.ireturn, 1) := by decide +kernel
theorem dX11_isAs_15 : decode cX11_isAs 15 = .ok (.aload_n 0, 1) := by decide +kernel
theorem dX11_isAs_16 : decode cX11_isAs 16 = .ok (.getfield 13, 3) := by decide +kernel
theorem dX11_isAs_19 : decode cX11_isAs 19 = .ok (.iload_n 1, 1) := by decide +kernel
theorem dX11_isAs_20 : decode cX11_isAs 20 = .ok (.iaload, 1) := by decide +kernel
theorem dX11_isAs_21 : decode cX11_isAs 21 = .ok (.iconst 1, 1) := by decide +kernel
theorem dX11_isAs_22 : decode cX11_isAs 22 = .ok (.if_icmp .ne 29, 3) := by decide +kernel
theorem dX11_isAs_25 : decode cX11_isAs 25 = .ok (.iload_n 2, 1) := by decide +kernel
theorem dX11_isAs_26 : decode cX11_isAs 26 = .ok (.iconst (-1), 1) := by decide +kernel
theorem dX11_isAs_27 : decode cX11_isAs 27 = .ok (.if_icmp .eq 20, 3) := by decide +kernel
theorem dX11_isAs_30 : decode cX11_isAs 30 = .ok (.aload_n 0, 1) := by decide +kernel
theorem dX11_isAs_31 : decode cX11_isAs 31 = .ok (.getfield 24, 3) := by decide +kernel
theorem dX11_isAs_34 : decode cX11_isAs 34 = .ok (.iload_n 1, 1) := by decide +kernel
theorem dX11_isAs_35 : decode cX11_isAs 35 = .ok (.iaload, 1) := by decide +kernel
theorem dX11_isAs_36 : decode cX11_isAs 36 = .ok (.bipush (-2), 2) := by decide +kernel
theorem dX11_isAs_38 : decode cX11_isAs 38 = .ok (.iload_n 2, 1) := by decide +kernel
theorem dX11_isAs_39 : decode cX11_isAs 39 = .ok (.isub, 1) := by decide +kernel
theorem dX11_isAs_40 : decode cX11_isAs 40 = .ok (.ishr, 1) := by decide +kernel
theorem dX11_isAs_41 : decode cX11_isAs 41 = .ok (.iconst 1, 1) := by decide +kernel
theorem dX11_isAs_42 : decode cX11_isAs 42 = .ok (.iand, 1) := by decide +kernel
theorem dX11_isAs_43 : decode cX11_isAs 43 = .ok (.iconst 1, 1) := by decide +kernel
theorem dX11_isAs_44 : decode cX11_isAs 44 = .ok (.if_icmp .ne 7, 3) := by decide +kernel
theorem dX11_isAs_47 : decode cX11_isAs 47 = .ok (.iconst 1, 1) := by decide +kernel
theorem dX11_isAs_48 : decode cX11_isAs 48 = .ok (.goto 4, 3) := by decide +kernel
theorem dX11_isAs_51 : decode cX11_isAs 51 = .ok (.iconst 0, 1) := by decide +kernel
theorem dX11_isAs_52 : decode cX11_isAs 52 = .ok (.ireturn, 1) := by decide +kernel
theorem dX11_fitting_0 : decode cX11_fitting 0 = .ok (.aload_n 0, 1) := by decide +kernel
theorem dX11_fitting_1 : decode cX11_fitting 1 = .ok (.getfield 171, 3) := by decide +kernel
theorem dX11_fitting_4 : decode cX11_fitting 4 = .ok (.ifCond .le 7, 3) := by decide +kernel
theorem dX11_fitting_7 : decode cX11_fitting 7 = .ok (.iconst 1, 1) := by decide +kernel
theorem dX11_fitting_8 : decode cX11_fitting 8 = .ok (.goto 4, 3) := by decide +kernel
theorem dX11_fitting_11 : decode cX11_fitting 11 = .ok (.iconst 0, 1) := by decide +kernel
theorem dX11_fitting_12 : decode cX11_fitting 12 = .ok (.istore_n 1, 1) := by decide +kernel
theorem dX11_fitting_13 : decode cX11_fitting 13 = .ok (.iconst 0, 1) := by decide +kernel
theorem dX11_fitting_14 : decode cX11_fitting 14 = .ok (.istore_n 2, 1) := by decide +kernel
theorem dX11_fitting_15 : decode cX11_fitting 15 = .ok (.iload_n 2, 1) := by decide +kernel
theorem dX11_fitting_16 : decode cX11_fitting 16 = .ok (.aload_n 0, 1) := by decide +kernel
theorem dX11_fitting_17 : decode cX11_fitting 17 = .ok (.getfield 171, 3) := by decide +kernel
theorem dX11_fitting_20 : decode cX11_fitting 20 = .ok (.if_icmp .ge 42, 3) := by decide +kernel
theorem dX11_fitting_23 : decode cX11_fitting 23 = .ok (.iload_n 1, 1) := by decide +kernel
theorem dX11_fitting_24 : decode cX11_fitting 24 = .ok (.ifCond .eq 30, 3) := by decide +kernel
theorem dX11_fitting_27 : decode cX11_fitting 27 = .ok (.aload_n 0, 1) := by decide +kernel
theorem dX11_fitting_28 : decode cX11_fitting 28 = .ok (.getfield 75, 3) := by decide +kernel
theorem dX11_fitting_31 : decode cX11_fitting 31 = .ok (.iload_n 2, 1) := by decide +kernel
theorem dX11_fitting_32 : decode cX11_fitting 32 = .ok (.iaload, 1) := by decide +kernel
theorem dX11_fitting_33 : decode cX11_fitting 33 = .ok (.iconst (-1), 1) := by decide +kernel
theorem dX11_fitting_34 : decode cX11_fitting 34 = .ok (.if_icmp .eq 20, 3) := by decide +kernel
theorem dX11_fitting_37 : decode cX11_fitting 37 = .ok (.aload_n 0, 1) := by decide +kernel
theorem dX11_fitting_38 : decode cX11_fitting 38 = .ok (.aload_n 0, 1) := by decide +kernel
theorem dX11_fitting_39 : decode cX11_fitting 39 = .ok (.getfield 75, 3) := by decide +kernel
theorem dX11_fitting_42 : decode cX11_fitting 42 = .ok (.iload_n 2, 1) := by decide +kernel
theorem dX11_fitting_43 : decode cX11_fitting 43 = .ok (.iaload, 1) := by decide +kernel
theorem dX11_fitting_44 : decode cX11_fitting 44 = .ok (.invokevirtual 174, 3) := by decide +kernel
theorem dX11_fitting_47 : decode cX11_fitting 47 = .ok (.ifCond .eq 7, 3) := by decide +kernel
theorem dX11_fitting_50 : decode cX11_fitting 50 = .ok (.iconst 1, 1) := by decide +kernel
theorem dX11_fitting_51 : decode cX11_fitting 51 = .ok (.goto 4, 3) := by decide +kernel
theorem dX11_fitting_54 : decode cX11_fitting 54 = .ok (.iconst 0, 1) := by decide +kernel
theorem dX11_fitting_55 : decode cX11_fitting 55 = .ok (.istore_n 1, 1) := by decide +kernel
theorem dX11_fitting_56 : decode cX11_fitting 56 = .ok (.iinc 2 1, 3) := by decide +kernel
theorem dX11_fitting_59 : decode cX11_fitting 59 = .ok (.goto (-44), 3) := by decide +kernel
theorem dX11_fitting_62 : decode cX11_fitting 62 = .ok (.iconst (-1), 1) := by decide +kernel
theorem dX11_fitting_63 : decode cX11_fitting 63 = .ok (.istore_n 2, 1) := by decide +kernel
theorem dX11_fitting_64 : decode cX11_fitting 64 = .ok (.iconst 0, 1) := by decide +kernel
theorem dX11_fitting_65 : decode cX11_fitting 65 = .ok (.istore_n 3, 1) := by decide +kernel
theorem dX11_fitting_66 : decode cX11_fitting 66 = .ok (.iload_n 3, 1) := by decide +kernel
theorem dX11_fitting_67 : decode cX11_fitting 67 = .ok (.aload_n 0, 1) := by decide +kernel
theorem dX11_fitting_68 : decode cX11_fitting 68 = .ok (.getfield 151, 3) := by decide +kernel
theorem dX11_fitting_71 : decode cX11_fitting 71 = .ok (.if_icmp .ge 117, 3) := by decide +kernel
theorem dX11_fitting_74 : decode cX11_fitting 74 = .ok (.iload_n 1, 1) := by decide +kernel
theorem dX11_fitting_75 : decode cX11_fitting 75 = .ok (.ifCond .eq 113, 3) := by decide +kernel
theorem dX11_fitting_78 : decode cX11_fitting 78 = .ok (.iload_n 2, 1) := by decide +kernel
theorem dX11_fitting_79 : decode cX11_fitting 79 = .ok (.iconst (-1), 1) := by decide +kernel
theorem dX11_fitting_80 : decode cX11_fitting 80 = .ok (.if_icmp .ne 108, 3) := by decide +kernel
theorem dX11_fitting_83 : decode cX11_fitting 83 = .ok (.aload_n 0, 1) := by decide +kernel
theorem dX11_fitting_84 : decode cX11_fitting 84 = .ok (.getfield 75, 3) := by decide +kernel
theorem dX11_fitting_87 : decode cX11_fitting 87 = .ok (.iconst 0, 1) := by decide +kernel
theorem dX11_fitting_88 : decode cX11_fitting 88 = .ok (.iaload, 1) := by decide +kernel
theorem dX11_fitting_89 : decode cX11_fitting 89 = .ok (.aload_n 0, 1) := by decide +kernel
theorem dX11_fitting_90 : decode cX11_fitting 90 = .ok (.getfield 36, 3) := by decide +kernel
theorem dX11_fitting_93 : decode cX11_fitting 93 = .ok (.iload_n 3, 1) := by decide +kernel
theorem dX11_fitting_94 : decode cX11_fitting 94 = .ok (.iaload, 1) := by decide +kernel
theorem dX11_fitting_95 : decode cX11_fitting 95 = .ok (.if_icmp .ne 22, 3) := by decide +kernel
theorem dX11_fitting_98 : decode cX11_fitting 98 = .ok (.aload_n 0, 1) := by decide +kernel
theorem dX11_fitting_99 : decode cX11_fitting 99 = .ok (.getfield 171, 3) := by decide +kernel
theorem dX11_fitting_102 : decode cX11_fitting 102 = .ok (.iconst 1, 1) := by decide +kernel
theorem dX11_fitting_103 : decode cX11_fitting 103 = .ok (.aload_n 0, 1) := by decide +kernel
theorem dX11_fitting_104 : decode cX11_fitting 104 = .ok (.getfield 42, 3) := by decide +kernel
theorem dX11_fitting_107 : decode cX11_fitting 107 = .ok (.iload_n 3, 1) := by decide +kernel
theorem dX11_fitting_108 : decode cX11_fitting 108 = .ok (.iaload, 1) := by decide +kernel
theorem dX11_fitting_109 : decode cX11_fitting 109 = .ok (.iadd, 1) := by decide +kernel
theorem dX11_fitting_110 : decode cX11_fitting 110 = .ok (.if_icmp .ne 7, 3) := by decide +kernel
theorem dX11_fitting_113 : decode cX11_fitting 113 = .ok (.iconst 1, 1) := by decide +kernel
theorem dX11_fitting_114 : decode cX11_fitting 114 = .ok (.goto 4, 3) := by decide +kernel
theorem dX11_fitting_117 : decode cX11_fitting 117 = .ok (.iconst 0, 1) := by decide +kernel
theorem dX11_fitting_118 : decode cX11_fitting 118 = .ok (.istore 4, 2) := by decide +kernel
theorem dX11_fitting_120 : decode cX11_fitting 120 = .ok (.iconst 0, 1) := by decide +kernel
theorem dX11_fitting_121 : decode cX11_fitting 121 = .ok (.istore 5, 2) := by decide +kernel
theorem dX11_fitting_123 : decode cX11_fitting 123 = .ok (.iload 5, 2) := by decide +kernel
theorem dX11_fitting_125 : decode cX11_fitting 125 = .ok (.aload_n 0, 1) := by decide +kernel
theorem dX11_fitting_126 : decode cX11_fitting 126 = .ok (.getfield 42, 3) := by decide +kernel
theorem dX11_fitting_129 : decode cX11_fitting 129 = .ok (.iload_n 3, 1) := by decide +kernel
theorem dX11_fitting_130 : decode cX11_fitting 130 = .ok (.iaload, 1) := by decide +kernel
theorem dX11_fitting_131 : decode cX11_fitting 131 = .ok (.if_icmp .ge 40, 3) := by decide +kernel
theorem dX11_fitting_134 : decode cX11_fitting 134 = .ok (.iload 4, 2) := by decide +kernel
theorem dX11_fitting_136 : decode cX11_fitting 136 = .ok (.ifCond .eq 35, 3) := by decide +kernel
theorem dX11_fitting_139 : decode cX11_fitting 139 = .ok (.aload_n 0, 1) := by decide +kernel
theorem dX11_fitting_140 : decode cX11_fitting 140 = .ok (.aload_n 0, 1) := by decide +kernel
theorem dX11_fitting_141 : decode cX11_fitting 141 = .ok (.getfield 75, 3) := by decide +kernel
theorem dX11_fitting_144 : decode cX11_fitting 144 = .ok (.iload 5, 2) := by decide +kernel
theorem dX11_fitting_146 : decode cX11_fitting 146 = .ok (.iconst 1, 1) := by decide +kernel
theorem dX11_fitting_147 : decode cX11_fitting 147 = .ok (.iadd, 1) := by decide +kernel
theorem dX11_fitting_148 : decode cX11_fitting 148 = .ok (.iaload, 1) := by decide +kernel
theorem dX11_fitting_149 : decode cX11_fitting 149 = .ok (.aload_n 0, 1) := by decide +kernel
theorem dX11_fitting_150 : decode cX11_fitting 150 = .ok (.getfield 39, 3) := by decide +kernel
theorem dX11_fitting_153 : decode cX11_fitting 153 = .ok (.iconst 4, 1) := by decide +kernel
theorem dX11_fitting_154 : decode cX11_fitting 154 = .ok (.iload_n 3, 1) := by decide +kernel
theorem dX11_fitting_155 : decode cX11_fitting 155 = .ok (.imul, 1) := by decide +kernel
theorem dX11_fitting_156 : decode cX11_fitting 156 = .ok (.iload 5, 2) := by decide +kernel
theorem dX11_fitting_158 : decode cX11_fitting 158 = .ok (.iadd, 1) := by decide +kernel
theorem dX11_fitting_159 : decode cX11_fitting 159 = .ok (.iaload, 1) := by decide +kernel
theorem dX11_fitting_160 : decode cX11_fitting 160 = .ok (.invokevirtual 177, 3) := by decide +kernel
theorem dX11_fitting_163 : decode cX11_fitting 163 = .ok (.istore 4, 2) := by decide +kernel
theorem dX11_fitting_165 : decode cX11_fitting 165 = .ok (.iinc 5 1, 3) := by decide +kernel
theorem dX11_fitting_168 : decode cX11_fitting 168 = .ok (.goto (-45), 3) := by decide +kernel
theorem dX11_fitting_171 : decode cX11_fitting 171 = .ok (.iload 4, 2) := by decide +kernel
theorem dX11_fitting_173 : decode cX11_fitting 173 = .ok (.ifCond .eq 7, 3) := by decide +kernel
theorem dX11_fitting_176 : decode cX11_fitting 176 = .ok (.iload_n 3, 1) := by decide +kernel
theorem dX11_fitting_177 : decode cX11_fitting 177 = .ok (.goto 4, 3) := by decide +kernel
theorem dX11_fitting_180 : decode cX11_fitting 180 = .ok (.iconst (-1), 1) := by decide +kernel
theorem dX11_fitting_181 : decode cX11_fitting 181 = .ok (.istore_n 2, 1) := by decide +kernel
theorem dX11_fitting_182 : decode cX11_fitting 182 = .ok (.iinc 3 1, 3) := by decide +kernel
theorem dX11_fitting_185 : decode cX11_fitting 185 = .ok (.goto (-119), 3) := by decide +kernel
theorem dX11_fitting_188 : decode cX11_fitting 188 = .ok (.iload_n 2, 1) := by decide +kernel
theorem dX11_fitting_189 : decode cX11_fitting 189 = .ok (.ireturn, 1) := by decide +kernel
theorem dX11_judge_0 : decode cX11_judge 0 = .ok (.aload_n 0, 1) := by decide +kernel
theorem dX11_judge_1 : decode cX11_judge 1 = .ok (.invokevirtual 168, 3) := by decide +kernel
theorem dX11_judge_4 : decode cX11_judge 4 = .ok (.aload_n 0, 1) := by decide +kernel
theorem dX11_judge_5 : decode cX11_judge 5 = .ok (.iconst 0, 1) := by decide +kernel
theorem dX11_judge_6 : decode cX11_judge 6 = .ok (.putfield 171, 3) := by decide +kernel
theorem dX11_judge_9 : decode cX11_judge 9 = .ok (.iconst 0, 1) := by decide +kernel
theorem dX11_judge_10 : decode cX11_judge 10 = .ok (.istore_n 1, 1) := by decide +kernel
theorem dX11_judge_11 : decode cX11_judge 11 = .ok (.iload_n 1, 1) := by decide +kernel
theorem dX11_judge_12 : decode cX11_judge 12 = .ok (.aload_n 0, 1) := by decide +kernel
theorem dX11_judge_13 : decode cX11_judge 13 = .ok (.getfield 158, 3) := by decide +kernel
theorem dX11_judge_16 : decode cX11_judge 16 = .ok (.if_icmp .ge 69, 3) := by decide +kernel
theorem dX11_judge_19 : decode cX11_judge 19 = .ok (.aload_n 0, 1) := by decide +kernel
theorem dX11_judge_20 : decode cX11_judge 20 = .ok (.getfield 69, 3) := by decide +kernel
theorem dX11_judge_23 : decode cX11_judge 23 = .ok (.iload_n 1, 1) := by decide +kernel
theorem dX11_judge_24 : decode cX11_judge 24 = .ok (.iaload, 1) := by decide +kernel
theorem dX11_judge_25 : decode cX11_judge 25 = .ok (.iconst (-1), 1) := by decide +kernel
theorem dX11_judge_26 : decode cX11_judge 26 = .ok (.if_icmp .eq 18, 3) := by decide +kernel
theorem dX11_judge_29 : decode cX11_judge 29 = .ok (.aload_n 0, 1) := by decide +kernel
theorem dX11_judge_30 : decode cX11_judge 30 = .ok (.getfield 13, 3) := by decide +kernel
theorem dX11_judge_33 : decode cX11_judge 33 = .ok (.aload_n 0, 1) := by decide +kernel
theorem dX11_judge_34 : decode cX11_judge 34 = .ok (.getfield 69, 3) := by decide +kernel
theorem dX11_judge_37 : decode cX11_judge 37 = .ok (.iload_n 1, 1) := by decide +kernel
theorem dX11_judge_38 : decode cX11_judge 38 = .ok (.iaload, 1) := by decide +kernel
theorem dX11_judge_39 : decode cX11_judge 39 = .ok (.iaload, 1) := by decide +kernel
theorem dX11_judge_40 : decode cX11_judge 40 = .ok (.iconst 3, 1) := by decide +kernel
theorem dX11_judge_41 : decode cX11_judge 41 = .ok (.if_icmp .eq 38, 3) := by decide +kernel
theorem dX11_judge_44 : decode cX11_judge 44 = .ok (.aload_n 0, 1) := by decide +kernel
theorem dX11_judge_45 : decode cX11_judge 45 = .ok (.getfield 72, 3) := by decide +kernel
theorem dX11_judge_48 : decode cX11_judge 48 = .ok (.aload_n 0, 1) := by decide +kernel
theorem dX11_judge_49 : decode cX11_judge 49 = .ok (.getfield 171, 3) := by decide +kernel
theorem dX11_judge_52 : decode cX11_judge 52 = .ok (.iload_n 1, 1) := by decide +kernel
theorem dX11_judge_53 : decode cX11_judge 53 = .ok (.iastore, 1) := by decide +kernel
theorem dX11_judge_54 : decode cX11_judge 54 = .ok (.aload_n 0, 1) := by decide +kernel
theorem dX11_judge_55 : decode cX11_judge 55 = .ok (.getfield 75, 3) := by decide +kernel
theorem dX11_judge_58 : decode cX11_judge 58 = .ok (.aload_n 0, 1) := by decide +kernel
theorem dX11_judge_59 : decode cX11_judge 59 = .ok (.getfield 171, 3) := by decide +kernel
theorem dX11_judge_62 : decode cX11_judge 62 = .ok (.aload_n 0, 1) := by decide +kernel
theorem dX11_judge_63 : decode cX11_judge 63 = .ok (.getfield 69, 3) := by decide +kernel
theorem dX11_judge_66 : decode cX11_judge 66 = .ok (.iload_n 1, 1) := by decide +kernel
theorem dX11_judge_67 : decode cX11_judge 67 = .ok (.iaload, 1) := by decide +kernel
theorem dX11_judge_68 : decode cX11_judge 68 = .ok (.iastore, 1) := by decide +kernel
theorem dX11_judge_69 : decode cX11_judge 69 = .ok (.aload_n 0, 1) := by decide +kernel
theorem dX11_judge_70 : decode cX11_judge 70 = .ok (.dup, 1) := by decide +kernel
theorem dX11_judge_71 : decode cX11_judge 71 = .ok (.getfield 171, 3) := by decide +kernel
theorem dX11_judge_74 : decode cX11_judge 74 = .ok (.iconst 1, 1) := by decide +kernel
theorem dX11_judge_75 : decode cX11_judge 75 = .ok (.iadd, 1) := by decide +kernel
theorem dX11_judge_76 : decode cX11_judge 76 = .ok (.putfield 171, 3) := by decide +kernel
theorem dX11_judge_79 : decode cX11_judge 79 = .ok (.iinc 1 1, 3) := by decide +kernel
theorem dX11_judge_82 : decode cX11_judge 82 = .ok (.goto (-71), 3) := by decide +kernel
theorem dX11_judge_85 : decode cX11_judge 85 = .ok (.aload_n 0, 1) := by decide +kernel
theorem dX11_judge_86 : decode cX11_judge 86 = .ok (.iconst (-1), 1) := by decide +kernel
theorem dX11_judge_87 : decode cX11_judge 87 = .ok (.putfield 180, 3) := by decide +kernel
theorem dX11_judge_90 : decode cX11_judge 90 = .ok (.iconst 0, 1) := by decide +kernel
theorem dX11_judge_91 : decode cX11_judge 91 = .ok (.istore_n 1, 1) := by decide +kernel
theorem dX11_judge_92 : decode cX11_judge 92 = .ok (.iconst (-1), 1) := by decide +kernel
theorem dX11_judge_93 : decode cX11_judge 93 = .ok (.istore_n 2, 1) := by decide +kernel
theorem dX11_judge_94 : decode cX11_judge 94 = .ok (.aload_n 0, 1) := by decide +kernel
theorem dX11_judge_95 : decode cX11_judge 95 = .ok (.getfield 171, 3) := by decide +kernel
theorem dX11_judge_98 : decode cX11_judge 98 = .ok (.iconst 1, 1) := by decide +kernel
theorem dX11_judge_99 : decode cX11_judge 99 = .ok (.isub, 1) := by decide +kernel
theorem dX11_judge_100 : decode cX11_judge 100 = .ok (.istore_n 3, 1) := by decide +kernel
theorem dX11_judge_101 : decode cX11_judge 101 = .ok (.iload_n 3, 1) := by decide +kernel
theorem dX11_judge_102 : decode cX11_judge 102 = .ok (.ifCond .lt 55, 3) := by decide +kernel
theorem dX11_judge_105 : decode cX11_judge 105 = .ok (.aload_n 0, 1) := by decide +kernel
theorem dX11_judge_106 : decode cX11_judge 106 = .ok (.getfield 75, 3) := by decide +kernel
theorem dX11_judge_109 : decode cX11_judge 109 = .ok (.iload_n 3, 1) := by decide +kernel
theorem dX11_judge_110 : decode cX11_judge 110 = .ok (.iaload, 1) := by decide +kernel
theorem dX11_judge_111 : decode cX11_judge 111 = .ok (.iconst (-1), 1) := by decide +kernel
theorem dX11_judge_112 : decode cX11_judge 112 = .ok (.if_icmp .ne 19, 3) := by decide +kernel
theorem dX11_judge_115 : decode cX11_judge 115 = .ok (.iinc 1 1, 3) := by decide +kernel
theorem dX11_judge_118 : decode cX11_judge 118 = .ok (.aload_n 0, 1) := by decide +kernel
theorem dX11_judge_119 : decode cX11_judge 119 = .ok (.aload_n 0, 1) := by decide +kernel
theorem dX11_judge_120 : decode cX11_judge 120 = .ok (.getfield 72, 3) := by decide +kernel
theorem dX11_judge_123 : decode cX11_judge 123 = .ok (.iload_n 3, 1) := by decide +kernel
theorem dX11_judge_124 : decode cX11_judge 124 = .ok (.iaload, 1) := by decide +kernel
theorem dX11_judge_125 : decode cX11_judge 125 = .ok (.putfield 180, 3) := by decide +kernel
theorem dX11_judge_128 : decode cX11_judge 128 = .ok (.goto 23, 3) := by decide +kernel
theorem dX11_judge_131 : decode cX11_judge 131 = .ok (.aload_n 0, 1) := by decide +kernel
theorem dX11_judge_132 : decode cX11_judge 132 = .ok (.aload_n 0, 1) := by decide +kernel
theorem dX11_judge_133 : decode cX11_judge 133 = .ok (.getfield 75, 3) := by decide +kernel
theorem dX11_judge_136 : decode cX11_judge 136 = .ok (.iload_n 3, 1) := by decide +kernel
theorem dX11_judge_137 : decode cX11_judge 137 = .ok (.iaload, 1) := by decide +kernel
theorem dX11_judge_138 : decode cX11_judge 138 = .ok (.invokevirtual 174, 3) := by decide +kernel
theorem dX11_judge_141 : decode cX11_judge 141 = .ok (.ifCond .ne 10, 3) := by decide +kernel
theorem dX11_judge_144 : decode cX11_judge 144 = .ok (.aload_n 0, 1) := by decide +kernel
theorem dX11_judge_145 : decode cX11_judge 145 = .ok (.getfield 72, 3) := by decide +kernel
theorem dX11_judge_148 : decode cX11_judge 148 = .ok (.iload_n 3, 1) := by decide +kernel
theorem dX11_judge_149 : decode cX11_judge 149 = .ok (.iaload, 1) := by decide +kernel
theorem dX11_judge_150 : decode cX11_judge 150 = .ok (.istore_n 2, 1) := by decide +kernel
theorem dX11_judge_151 : decode cX11_judge 151 = .ok (.iinc 3 (-1), 3) := by decide +kernel
theorem dX11_judge_154 : decode cX11_judge 154 = .ok (.goto (-53), 3) := by decide +kernel
theorem dX11_judge_157 : decode cX11_judge 157 = .ok (.aload_n 0, 1) := by decide +kernel
theorem dX11_judge_158 : decode cX11_judge 158 = .ok (.getfield 171, 3) := by decide +kernel
theorem dX11_judge_161 : decode cX11_judge 161 = .ok (.ifCond .ne 11, 3) := by decide +kernel
theorem dX11_judge_164 : decode cX11_judge 164 = .ok (.aload_n 0, 1) := by decide +kernel
theorem dX11_judge_165 : decode cX11_judge 165 = .ok (.iconst 1, 1) := by decide +kernel
theorem dX11_judge_166 : decode cX11_judge 166 = .ok (.putfield 183, 3) := by decide +kernel
theorem dX11_judge_169 : decode cX11_judge 169 = .ok (.goto 92, 3) := by decide +kernel
theorem dX11_judge_172 : decode cX11_judge 172 = .ok (.iload_n 1, 1) := by decide +kernel
theorem dX11_judge_173 : decode cX11_judge 173 = .ok (.ifCond .le 20, 3) := by decide +kernel
theorem dX11_judge_176 : decode cX11_judge 176 = .ok (.aload_n 0, 1) := by decide +kernel
theorem dX11_judge_177 : decode cX11_judge 177 = .ok (.iload_n 1, 1) := by decide +kernel
theorem dX11_judge_178 : decode cX11_judge 178 = .ok (.iconst 1, 1) := by decide +kernel
theorem dX11_judge_179 : decode cX11_judge 179 = .ok (.if_icmp .le 7, 3) := by decide +kernel
theorem dX11_judge_182 : decode cX11_judge 182 = .ok (.iconst 2, 1) := by decide +kernel
theorem dX11_judge_183 : decode cX11_judge 183 = .ok (.goto 4, 3) := by decide +kernel
theorem dX11_judge_186 : decode cX11_judge 186 = .ok (.iconst 3, 1) := by decide +kernel
theorem dX11_judge_187 : decode cX11_judge 187 = .ok (.putfield 183, 3) := by decide +kernel
theorem dX11_judge_190 : decode cX11_judge 190 = .ok (.goto 71, 3) := by decide +kernel
theorem dX11_judge_193 : decode cX11_judge 193 = .ok (.aload_n 0, 1) := by decide +kernel
theorem dX11_judge_194 : decode cX11_judge 194 = .ok (.getfield 13, 3) := by decide +kernel
theorem dX11_judge_197 : decode cX11_judge 197 = .ok (.aload_n 0, 1) := by decide +kernel
theorem dX11_judge_198 : decode cX11_judge 198 = .ok (.getfield 75, 3) := by decide +kernel
theorem dX11_judge_201 : decode cX11_judge 201 = .ok (.iconst 0, 1) := by decide +kernel
theorem dX11_judge_202 : decode cX11_judge 202 = .ok (.iaload, 1) := by decide +kernel
theorem dX11_judge_203 : decode cX11_judge 203 = .ok (.iaload, 1) := by decide +kernel
theorem dX11_judge_204 : decode cX11_judge 204 = .ok (.ifCond .eq 21, 3) := by decide +kernel
theorem dX11_judge_207 : decode cX11_judge 207 = .ok (.aload_n 0, 1) := by decide +kernel
theorem dX11_judge_208 : decode cX11_judge 208 = .ok (.iconst 4, 1) := by decide +kernel
theorem dX11_judge_209 : decode cX11_judge 209 = .ok (.putfield 183, 3) := by decide +kernel
theorem dX11_judge_212 : decode cX11_judge 212 = .ok (.aload_n 0, 1) := by decide +kernel
theorem dX11_judge_213 : decode cX11_judge 213 = .ok (.aload_n 0, 1) := by decide +kernel
theorem dX11_judge_214 : decode cX11_judge 214 = .ok (.getfield 72, 3) := by decide +kernel
theorem dX11_judge_217 : decode cX11_judge 217 = .ok (.iconst 0, 1) := by decide +kernel
theorem dX11_judge_218 : decode cX11_judge 218 = .ok (.iaload, 1) := by decide +kernel
theorem dX11_judge_219 : decode cX11_judge 219 = .ok (.putfield 180, 3) := by decide +kernel
theorem dX11_judge_222 : decode cX11_judge 222 = .ok (.goto 39, 3) := by decide +kernel
theorem dX11_judge_225 : decode cX11_judge 225 = .ok (.iload_n 2, 1) := by decide +kernel
theorem dX11_judge_226 : decode cX11_judge 226 = .ok (.iconst (-1), 1) := by decide +kernel
theorem dX11_judge_227 : decode cX11_judge 227 = .ok (.if_icmp .eq 16, 3) := by decide +kernel
theorem dX11_judge_230 : decode cX11_judge 230 = .ok (.aload_n 0, 1) := by decide +kernel
theorem dX11_judge_231 : decode cX11_judge 231 = .ok (.iconst 5, 1) := by decide +kernel
theorem dX11_judge_232 : decode cX11_judge 232 = .ok (.putfield 183, 3) := by decide +kernel
theorem dX11_judge_235 : decode cX11_judge 235 = .ok (.aload_n 0, 1) := by decide +kernel
theorem dX11_judge_236 : decode cX11_judge 236 = .ok (.iload_n 2, 1) := by decide +kernel
theorem dX11_judge_237 : decode cX11_judge 237 = .ok (.putfield 180, 3) := by decide +kernel
theorem dX11_judge_240 : decode cX11_judge 240 = .ok (.goto 21, 3) := by decide +kernel
theorem dX11_judge_243 : decode cX11_judge 243 = .ok (.aload_n 0, 1) := by decide +kernel
theorem dX11_judge_244 : decode cX11_judge 244 = .ok (.aload_n 0, 1) := by decide +kernel
theorem dX11_judge_245 : decode cX11_judge 245 = .ok (.invokevirtual 186, 3) := by decide +kernel
theorem dX11_judge_248 : decode cX11_judge 248 = .ok (.iconst (-1), 1) := by decide +kernel
theorem dX11_judge_249 : decode cX11_judge 249 = .ok (.if_icmp .eq 7, 3) := by decide +kernel
theorem dX11_judge_252 : decode cX11_judge 252 = .ok (.iconst 0, 1) := by decide +kernel
theorem dX11_judge_253 : decode cX11_judge 253 = .ok (.goto 5, 3) := by decide +kernel
theorem dX11_judge_256 : decode cX11_judge 256 = .ok (.bipush 6, 2) := by decide +kernel
theorem dX11_judge_258 : decode cX11_judge 258 = .ok (.putfield 183, 3) := by decide +kernel
theorem dX11_judge_261 : decode cX11_judge 261 = .ok (.return_, 1) := by decide +kernel
theorem dX11_look_0 : decode cX11_look 0 = .ok (.aload_n 0, 1) := by decide +kernel
theorem dX11_look_1 : decode cX11_look 1 = .ok (.iconst 0, 1) := by decide +kernel
theorem dX11_look_2 : decode cX11_look 2 = .ok (.putfield 1, 3) := by decide +kernel
theorem dX11_look_5 : decode cX11_look 5 = .ok (.aload_n 0, 1) := by decide +kernel
theorem dX11_look_6 : decode cX11_look 6 = .ok (.invokevirtual 190, 3) := by decide +kernel
theorem dX11_look_9 : decode cX11_look 9 = .ok (.aload_n 0, 1) := by decide +kernel
theorem dX11_look_10 : decode cX11_look 10 = .ok (.getfield 183, 3) := by decide +kernel
theorem dX11_look_13 : decode cX11_look 13 = .ok (.ireturn, 1) := by decide +kernel
theorem dX11_least_0 : decode cX11_least 0 = .ok (.iload_n 1, 1) := by decide +kernel
theorem dX11_least_1 : decode cX11_least 1 = .ok (.iload_n 2, 1) := by decide +kernel
theorem dX11_least_2 : decode cX11_least 2 = .ok (.if_icmp .ge 7, 3) := by decide +kernel
theorem dX11_least_5 : decode cX11_least 5 = .ok (.iload_n 1, 1) := by decide +kernel
theorem dX11_least_6 : decode cX11_least 6 = .ok (.goto 4, 3) := by decide +kernel
theorem dX11_least_9 : decode cX11_least 9 = .ok (.iload_n 2, 1) := by decide +kernel
theorem dX11_least_10 : decode cX11_least 10 = .ok (.ireturn, 1) := by decide +kernel
theorem dX11_change_0 : decode cX11_change 0 = .ok (.iload_n 1, 1) := by decide +kernel
theorem dX11_change_1 : decode cX11_change 1 = .ok (.iload_n 2, 1) := by decide +kernel
theorem dX11_change_2 : decode cX11_change 2 = .ok (.if_icmp .ne 5, 3) := by decide +kernel
theorem dX11_change_5 : decode cX11_change 5 = .ok (.iconst 0, 1) := by decide +kernel
theorem dX11_change_6 : decode cX11_change 6 = .ok (.ireturn, 1) := by decide +kernel
theorem dX11_change_7 : decode cX11_change 7 = .ok (.aload_n 0, 1) := by decide +kernel
theorem dX11_change_8 : decode cX11_change 8 = .ok (.getfield 48, 3) := by decide +kernel
theorem dX11_change_11 : decode cX11_change 11 = .ok (.bipush 26, 2) := by decide +kernel
theorem dX11_change_13 : decode cX11_change 13 = .ok (.iload_n 1, 1) := by decide +kernel
theorem dX11_change_14 : decode cX11_change 14 = .ok (.bipush 97, 2) := by decide +kernel
theorem dX11_change_16 : decode cX11_change 16 = .ok (.isub, 1) := by decide +kernel
theorem dX11_change_17 : decode cX11_change 17 = .ok (.imul, 1) := by decide +kernel
theorem dX11_change_18 : decode cX11_change 18 = .ok (.iload_n 2, 1) := by decide +kernel
theorem dX11_change_19 : decode cX11_change 19 = .ok (.iadd, 1) := by decide +kernel
theorem dX11_change_20 : decode cX11_change 20 = .ok (.bipush 97, 2) := by decide +kernel
theorem dX11_change_22 : decode cX11_change 22 = .ok (.isub, 1) := by decide +kernel
theorem dX11_change_23 : decode cX11_change 23 = .ok (.baload, 1) := by decide +kernel
theorem dX11_change_24 : decode cX11_change 24 = .ok (.ifCond .eq 22, 3) := by decide +kernel
theorem dX11_change_27 : decode cX11_change 27 = .ok (.aload_n 0, 1) := by decide +kernel
theorem dX11_change_28 : decode cX11_change 28 = .ok (.aload_n 0, 1) := by decide +kernel
theorem dX11_change_29 : decode cX11_change 29 = .ok (.getfield 45, 3) := by decide +kernel
theorem dX11_change_32 : decode cX11_change 32 = .ok (.iconst 2, 1) := by decide +kernel
theorem dX11_change_33 : decode cX11_change 33 = .ok (.iaload, 1) := by decide +kernel
theorem dX11_change_34 : decode cX11_change 34 = .ok (.aload_n 0, 1) := by decide +kernel
theorem dX11_change_35 : decode cX11_change 35 = .ok (.getfield 45, 3) := by decide +kernel
theorem dX11_change_38 : decode cX11_change 38 = .ok (.iconst 3, 1) := by decide +kernel
theorem dX11_change_39 : decode cX11_change 39 = .ok (.iaload, 1) := by decide +kernel
theorem dX11_change_40 : decode cX11_change 40 = .ok (.invokevirtual 193, 3) := by decide +kernel
theorem dX11_change_43 : decode cX11_change 43 = .ok (.goto 9, 3) := by decide +kernel
theorem dX11_change_46 : decode cX11_change 46 = .ok (.aload_n 0, 1) := by decide +kernel
theorem dX11_change_47 : decode cX11_change 47 = .ok (.getfield 45, 3) := by decide +kernel
theorem dX11_change_50 : decode cX11_change 50 = .ok (.iconst 2, 1) := by decide +kernel
theorem dX11_change_51 : decode cX11_change 51 = .ok (.iaload, 1) := by decide +kernel
theorem dX11_change_52 : decode cX11_change 52 = .ok (.ireturn, 1) := by decide +kernel
theorem dX11_reckon_0 : decode cX11_reckon 0 = .ok (.aload_n 0, 1) := by decide +kernel
theorem dX11_reckon_1 : decode cX11_reckon 1 = .ok (.getfield 30, 3) := by decide +kernel
theorem dX11_reckon_4 : decode cX11_reckon 4 = .ok (.iload_n 3, 1) := by decide +kernel
theorem dX11_reckon_5 : decode cX11_reckon 5 = .ok (.iaload, 1) := by decide +kernel
theorem dX11_reckon_6 : decode cX11_reckon 6 = .ok (.istore 4, 2) := by decide +kernel
theorem dX11_reckon_8 : decode cX11_reckon 8 = .ok (.iconst 0, 1) := by decide +kernel
theorem dX11_reckon_9 : decode cX11_reckon 9 = .ok (.istore 5, 2) := by decide +kernel
theorem dX11_reckon_11 : decode cX11_reckon 11 = .ok (.iload 5, 2) := by decide +kernel
theorem dX11_reckon_13 : decode cX11_reckon 13 = .ok (.iload_n 2, 1) := by decide +kernel
theorem dX11_reckon_14 : decode cX11_reckon 14 = .ok (.if_icmp .gt 315, 3) := by decide +kernel
theorem dX11_reckon_17 : decode cX11_reckon 17 = .ok (.iconst 0, 1) := by decide +kernel
theorem dX11_reckon_18 : decode cX11_reckon 18 = .ok (.istore 6, 2) := by decide +kernel
theorem dX11_reckon_20 : decode cX11_reckon 20 = .ok (.iload 6, 2) := by decide +kernel
theorem dX11_reckon_22 : decode cX11_reckon 22 = .ok (.iload 4, 2) := by decide +kernel
theorem dX11_reckon_24 : decode cX11_reckon 24 = .ok (.if_icmp .gt 299, 3) := by decide +kernel
theorem dX11_reckon_27 : decode cX11_reckon 27 = .ok (.iload 5, 2) := by decide +kernel
theorem dX11_reckon_29 : decode cX11_reckon 29 = .ok (.ifCond .ne 12, 3) := by decide +kernel
theorem dX11_reckon_32 : decode cX11_reckon 32 = .ok (.iload 6, 2) := by decide +kernel
theorem dX11_reckon_34 : decode cX11_reckon 34 = .ok (.ifCond .ne 7, 3) := by decide +kernel
theorem dX11_reckon_37 : decode cX11_reckon 37 = .ok (.iconst 0, 1) := by decide +kernel
theorem dX11_reckon_38 : decode cX11_reckon 38 = .ok (.goto 5, 3) := by decide +kernel
theorem dX11_reckon_41 : decode cX11_reckon 41 = .ok (.ldc 197, 2) := by decide +kernel
theorem dX11_reckon_43 : decode cX11_reckon 43 = .ok (.istore 7, 2) := by decide +kernel
theorem dX11_reckon_45 : decode cX11_reckon 45 = .ok (.iload 5, 2) := by decide +kernel
theorem dX11_reckon_47 : decode cX11_reckon 47 = .ok (.ifCond .le 20, 3) := by decide +kernel
theorem dX11_reckon_50 : decode cX11_reckon 50 = .ok (.aload_n 0, 1) := by decide +kernel
theorem dX11_reckon_51 : decode cX11_reckon 51 = .ok (.getfield 54, 3) := by decide +kernel
theorem dX11_reckon_54 : decode cX11_reckon 54 = .ok (.iload_n 1, 1) := by decide +kernel
theorem dX11_reckon_55 : decode cX11_reckon 55 = .ok (.iload 5, 2) := by decide +kernel
theorem dX11_reckon_57 : decode cX11_reckon 57 = .ok (.iadd, 1) := by decide +kernel
theorem dX11_reckon_58 : decode cX11_reckon 58 = .ok (.iconst 1, 1) := by decide +kernel
theorem dX11_reckon_59 : decode cX11_reckon 59 = .ok (.isub, 1) := by decide +kernel
theorem dX11_reckon_60 : decode cX11_reckon 60 = .ok (.iaload, 1) := by decide +kernel
theorem dX11_reckon_61 : decode cX11_reckon 61 = .ok (.invokestatic 127, 3) := by decide +kernel
theorem dX11_reckon_64 : decode cX11_reckon 64 = .ok (.goto 4, 3) := by decide +kernel
theorem dX11_reckon_67 : decode cX11_reckon 67 = .ok (.iconst 0, 1) := by decide +kernel
theorem dX11_reckon_68 : decode cX11_reckon 68 = .ok (.istore 8, 2) := by decide +kernel
theorem dX11_reckon_70 : decode cX11_reckon 70 = .ok (.iload 6, 2) := by decide +kernel
theorem dX11_reckon_72 : decode cX11_reckon 72 = .ok (.ifCond .le 20, 3) := by decide +kernel
theorem dX11_reckon_75 : decode cX11_reckon 75 = .ok (.aload_n 0, 1) := by decide +kernel
theorem dX11_reckon_76 : decode cX11_reckon 76 = .ok (.getfield 27, 3) := by decide +kernel
theorem dX11_reckon_79 : decode cX11_reckon 79 = .ok (.bipush 12, 2) := by decide +kernel
theorem dX11_reckon_81 : decode cX11_reckon 81 = .ok (.iload_n 3, 1) := by decide +kernel
theorem dX11_reckon_82 : decode cX11_reckon 82 = .ok (.imul, 1) := by decide +kernel
theorem dX11_reckon_83 : decode cX11_reckon 83 = .ok (.iload 6, 2) := by decide +kernel
theorem dX11_reckon_85 : decode cX11_reckon 85 = .ok (.iadd, 1) := by decide +kernel
theorem dX11_reckon_86 : decode cX11_reckon 86 = .ok (.iconst 1, 1) := by decide +kernel
theorem dX11_reckon_87 : decode cX11_reckon 87 = .ok (.isub, 1) := by decide +kernel
theorem dX11_reckon_88 : decode cX11_reckon 88 = .ok (.iaload, 1) := by decide +kernel
theorem dX11_reckon_89 : decode cX11_reckon 89 = .ok (.goto 4, 3) := by decide +kernel
theorem dX11_reckon_92 : decode cX11_reckon 92 = .ok (.iconst 0, 1) := by decide +kernel
theorem dX11_reckon_93 : decode cX11_reckon 93 = .ok (.istore 9, 2) := by decide +kernel
theorem dX11_reckon_95 : decode cX11_reckon 95 = .ok (.iload 5, 2) := by decide +kernel
theorem dX11_reckon_97 : decode cX11_reckon 97 = .ok (.ifCond .le 33, 3) := by decide +kernel
theorem dX11_reckon_100 : decode cX11_reckon 100 = .ok (.aload_n 0, 1) := by decide +kernel
theorem dX11_reckon_101 : decode cX11_reckon 101 = .ok (.iload 7, 2) := by decide +kernel
theorem dX11_reckon_103 : decode cX11_reckon 103 = .ok (.aload_n 0, 1) := by decide +kernel
theorem dX11_reckon_104 : decode cX11_reckon 104 = .ok (.getfield 78, 3) := by decide +kernel
theorem dX11_reckon_107 : decode cX11_reckon 107 = .ok (.bipush 13, 2) := by decide +kernel
theorem dX11_reckon_109 : decode cX11_reckon 109 = .ok (.iload 5, 2) := by decide +kernel
theorem dX11_reckon_111 : decode cX11_reckon 111 = .ok (.iconst 1, 1) := by decide +kernel
theorem dX11_reckon_112 : decode cX11_reckon 112 = .ok (.isub, 1) := by decide +kernel
theorem dX11_reckon_113 : decode cX11_reckon 113 = .ok (.imul, 1) := by decide +kernel
theorem dX11_reckon_114 : decode cX11_reckon 114 = .ok (.iload 6, 2) := by decide +kernel
theorem dX11_reckon_116 : decode cX11_reckon 116 = .ok (.iadd, 1) := by decide +kernel
theorem dX11_reckon_117 : decode cX11_reckon 117 = .ok (.iaload, 1) := by decide +kernel
theorem dX11_reckon_118 : decode cX11_reckon 118 = .ok (.aload_n 0, 1) := by decide +kernel
theorem dX11_reckon_119 : decode cX11_reckon 119 = .ok (.getfield 45, 3) := by decide +kernel
theorem dX11_reckon_122 : decode cX11_reckon 122 = .ok (.iconst 0, 1) := by decide +kernel
theorem dX11_reckon_123 : decode cX11_reckon 123 = .ok (.iaload, 1) := by decide +kernel
theorem dX11_reckon_124 : decode cX11_reckon 124 = .ok (.iadd, 1) := by decide +kernel
theorem dX11_reckon_125 : decode cX11_reckon 125 = .ok (.invokevirtual 193, 3) := by decide +kernel
theorem dX11_reckon_128 : decode cX11_reckon 128 = .ok (.istore 7, 2) := by decide +kernel
theorem dX11_reckon_130 : decode cX11_reckon 130 = .ok (.iload 6, 2) := by decide +kernel
theorem dX11_reckon_132 : decode cX11_reckon 132 = .ok (.ifCond .le 33, 3) := by decide +kernel
theorem dX11_reckon_135 : decode cX11_reckon 135 = .ok (.aload_n 0, 1) := by decide +kernel
theorem dX11_reckon_136 : decode cX11_reckon 136 = .ok (.iload 7, 2) := by decide +kernel
theorem dX11_reckon_138 : decode cX11_reckon 138 = .ok (.aload_n 0, 1) := by decide +kernel
theorem dX11_reckon_139 : decode cX11_reckon 139 = .ok (.getfield 78, 3) := by decide +kernel
theorem dX11_reckon_142 : decode cX11_reckon 142 = .ok (.bipush 13, 2) := by decide +kernel
theorem dX11_reckon_144 : decode cX11_reckon 144 = .ok (.iload 5, 2) := by decide +kernel
theorem dX11_reckon_146 : decode cX11_reckon 146 = .ok (.imul, 1) := by decide +kernel
theorem dX11_reckon_147 : decode cX11_reckon 147 = .ok (.iload 6, 2) := by decide +kernel
theorem dX11_reckon_149 : decode cX11_reckon 149 = .ok (.iadd, 1) := by decide +kernel
theorem dX11_reckon_150 : decode cX11_reckon 150 = .ok (.iconst 1, 1) := by decide +kernel
theorem dX11_reckon_151 : decode cX11_reckon 151 = .ok (.isub, 1) := by decide +kernel
theorem dX11_reckon_152 : decode cX11_reckon 152 = .ok (.iaload, 1) := by decide +kernel
theorem dX11_reckon_153 : decode cX11_reckon 153 = .ok (.aload_n 0, 1) := by decide +kernel
theorem dX11_reckon_154 : decode cX11_reckon 154 = .ok (.getfield 45, 3) := by decide +kernel
theorem dX11_reckon_157 : decode cX11_reckon 157 = .ok (.iconst 1, 1) := by decide +kernel
theorem dX11_reckon_158 : decode cX11_reckon 158 = .ok (.iaload, 1) := by decide +kernel
theorem dX11_reckon_159 : decode cX11_reckon 159 = .ok (.iadd, 1) := by decide +kernel
theorem dX11_reckon_160 : decode cX11_reckon 160 = .ok (.invokevirtual 193, 3) := by decide +kernel
theorem dX11_reckon_163 : decode cX11_reckon 163 = .ok (.istore 7, 2) := by decide +kernel
theorem dX11_reckon_165 : decode cX11_reckon 165 = .ok (.iload 5, 2) := by decide +kernel
theorem dX11_reckon_167 : decode cX11_reckon 167 = .ok (.ifCond .le 42, 3) := by decide +kernel
theorem dX11_reckon_170 : decode cX11_reckon 170 = .ok (.iload 6, 2) := by decide +kernel
theorem dX11_reckon_172 : decode cX11_reckon 172 = .ok (.ifCond .le 37, 3) := by decide +kernel
theorem dX11_reckon_175 : decode cX11_reckon 175 = .ok (.aload_n 0, 1) := by decide +kernel
theorem dX11_reckon_176 : decode cX11_reckon 176 = .ok (.iload 7, 2) := by decide +kernel
theorem dX11_reckon_178 : decode cX11_reckon 178 = .ok (.aload_n 0, 1) := by decide +kernel
theorem dX11_reckon_179 : decode cX11_reckon 179 = .ok (.getfield 78, 3) := by decide +kernel
theorem dX11_reckon_182 : decode cX11_reckon 182 = .ok (.bipush 13, 2) := by decide +kernel
theorem dX11_reckon_184 : decode cX11_reckon 184 = .ok (.iload 5, 2) := by decide +kernel
theorem dX11_reckon_186 : decode cX11_reckon 186 = .ok (.iconst 1, 1) := by decide +kernel
theorem dX11_reckon_187 : decode cX11_reckon 187 = .ok (.isub, 1) := by decide +kernel
theorem dX11_reckon_188 : decode cX11_reckon 188 = .ok (.imul, 1) := by decide +kernel
theorem dX11_reckon_189 : decode cX11_reckon 189 = .ok (.iload 6, 2) := by decide +kernel
theorem dX11_reckon_191 : decode cX11_reckon 191 = .ok (.iadd, 1) := by decide +kernel
theorem dX11_reckon_192 : decode cX11_reckon 192 = .ok (.iconst 1, 1) := by decide +kernel
theorem dX11_reckon_193 : decode cX11_reckon 193 = .ok (.isub, 1) := by decide +kernel
theorem dX11_reckon_194 : decode cX11_reckon 194 = .ok (.iaload, 1) := by decide +kernel
theorem dX11_reckon_195 : decode cX11_reckon 195 = .ok (.aload_n 0, 1) := by decide +kernel
theorem dX11_reckon_196 : decode cX11_reckon 196 = .ok (.iload 8, 2) := by decide +kernel
theorem dX11_reckon_198 : decode cX11_reckon 198 = .ok (.iload 9, 2) := by decide +kernel
theorem dX11_reckon_200 : decode cX11_reckon 200 = .ok (.invokevirtual 198, 3) := by decide +kernel
theorem dX11_reckon_203 : decode cX11_reckon 203 = .ok (.iadd, 1) := by decide +kernel
theorem dX11_reckon_204 : decode cX11_reckon 204 = .ok (.invokevirtual 193, 3) := by decide +kernel
theorem dX11_reckon_207 : decode cX11_reckon 207 = .ok (.istore 7, 2) := by decide +kernel
theorem dX11_reckon_209 : decode cX11_reckon 209 = .ok (.iload 5, 2) := by decide +kernel
theorem dX11_reckon_211 : decode cX11_reckon 211 = .ok (.iconst 1, 1) := by decide +kernel
theorem dX11_reckon_212 : decode cX11_reckon 212 = .ok (.if_icmp .le 90, 3) := by decide +kernel
theorem dX11_reckon_215 : decode cX11_reckon 215 = .ok (.iload 6, 2) := by decide +kernel
theorem dX11_reckon_217 : decode cX11_reckon 217 = .ok (.iconst 1, 1) := by decide +kernel
theorem dX11_reckon_218 : decode cX11_reckon 218 = .ok (.if_icmp .le 84, 3) := by decide +kernel
theorem dX11_reckon_221 : decode cX11_reckon 221 = .ok (.aload_n 0, 1) := by decide +kernel
theorem dX11_reckon_222 : decode cX11_reckon 222 = .ok (.getfield 54, 3) := by decide +kernel
theorem dX11_reckon_225 : decode cX11_reckon 225 = .ok (.iload_n 1, 1) := by decide +kernel
theorem dX11_reckon_226 : decode cX11_reckon 226 = .ok (.iload 5, 2) := by decide +kernel
theorem dX11_reckon_228 : decode cX11_reckon 228 = .ok (.iadd, 1) := by decide +kernel
theorem dX11_reckon_229 : decode cX11_reckon 229 = .ok (.iconst 2, 1) := by decide +kernel
theorem dX11_reckon_230 : decode cX11_reckon 230 = .ok (.isub, 1) := by decide +kernel
theorem dX11_reckon_231 : decode cX11_reckon 231 = .ok (.iaload, 1) := by decide +kernel
theorem dX11_reckon_232 : decode cX11_reckon 232 = .ok (.invokestatic 127, 3) := by decide +kernel
theorem dX11_reckon_235 : decode cX11_reckon 235 = .ok (.istore 10, 2) := by decide +kernel
theorem dX11_reckon_237 : decode cX11_reckon 237 = .ok (.iload 8, 2) := by decide +kernel
theorem dX11_reckon_239 : decode cX11_reckon 239 = .ok (.iload 10, 2) := by decide +kernel
theorem dX11_reckon_241 : decode cX11_reckon 241 = .ok (.if_icmp .eq 61, 3) := by decide +kernel
theorem dX11_reckon_244 : decode cX11_reckon 244 = .ok (.iload 8, 2) := by decide +kernel
theorem dX11_reckon_246 : decode cX11_reckon 246 = .ok (.aload_n 0, 1) := by decide +kernel
theorem dX11_reckon_247 : decode cX11_reckon 247 = .ok (.getfield 27, 3) := by decide +kernel
theorem dX11_reckon_250 : decode cX11_reckon 250 = .ok (.bipush 12, 2) := by decide +kernel
theorem dX11_reckon_252 : decode cX11_reckon 252 = .ok (.iload_n 3, 1) := by decide +kernel
theorem dX11_reckon_253 : decode cX11_reckon 253 = .ok (.imul, 1) := by decide +kernel
theorem dX11_reckon_254 : decode cX11_reckon 254 = .ok (.iload 6, 2) := by decide +kernel
theorem dX11_reckon_256 : decode cX11_reckon 256 = .ok (.iadd, 1) := by decide +kernel
theorem dX11_reckon_257 : decode cX11_reckon 257 = .ok (.iconst 2, 1) := by decide +kernel
theorem dX11_reckon_258 : decode cX11_reckon 258 = .ok (.isub, 1) := by decide +kernel
theorem dX11_reckon_259 : decode cX11_reckon 259 = .ok (.iaload, 1) := by decide +kernel
theorem dX11_reckon_260 : decode cX11_reckon 260 = .ok (.if_icmp .ne 42, 3) := by decide +kernel
theorem dX11_reckon_263 : decode cX11_reckon 263 = .ok (.iload 10, 2) := by decide +kernel
theorem dX11_reckon_265 : decode cX11_reckon 265 = .ok (.iload 9, 2) := by decide +kernel
theorem dX11_reckon_267 : decode cX11_reckon 267 = .ok (.if_icmp .ne 35, 3) := by decide +kernel
theorem dX11_reckon_270 : decode cX11_reckon 270 = .ok (.aload_n 0, 1) := by decide +kernel
theorem dX11_reckon_271 : decode cX11_reckon 271 = .ok (.iload 7, 2) := by decide +kernel
theorem dX11_reckon_273 : decode cX11_reckon 273 = .ok (.aload_n 0, 1) := by decide +kernel
theorem dX11_reckon_274 : decode cX11_reckon 274 = .ok (.getfield 78, 3) := by decide +kernel
theorem dX11_reckon_277 : decode cX11_reckon 277 = .ok (.bipush 13, 2) := by decide +kernel
theorem dX11_reckon_279 : decode cX11_reckon 279 = .ok (.iload 5, 2) := by decide +kernel
theorem dX11_reckon_281 : decode cX11_reckon 281 = .ok (.iconst 2, 1) := by decide +kernel
theorem dX11_reckon_282 : decode cX11_reckon 282 = .ok (.isub, 1) := by decide +kernel
theorem dX11_reckon_283 : decode cX11_reckon 283 = .ok (.imul, 1) := by decide +kernel
theorem dX11_reckon_284 : decode cX11_reckon 284 = .ok (.iload 6, 2) := by decide +kernel
theorem dX11_reckon_286 : decode cX11_reckon 286 = .ok (.iadd, 1) := by decide +kernel
theorem dX11_reckon_287 : decode cX11_reckon 287 = .ok (.iconst 2, 1) := by decide +kernel
theorem dX11_reckon_288 : decode cX11_reckon 288 = .ok (.isub, 1) := by decide +kernel
theorem dX11_reckon_289 : decode cX11_reckon 289 = .ok (.iaload, 1) := by decide +kernel
theorem dX11_reckon_290 : decode cX11_reckon 290 = .ok (.aload_n 0, 1) := by decide +kernel
theorem dX11_reckon_291 : decode cX11_reckon 291 = .ok (.getfield 45, 3) := by decide +kernel
theorem dX11_reckon_294 : decode cX11_reckon 294 = .ok (.iconst 4, 1) := by decide +kernel
theorem dX11_reckon_295 : decode cX11_reckon 295 = .ok (.iaload, 1) := by decide +kernel
theorem dX11_reckon_296 : decode cX11_reckon 296 = .ok (.iadd, 1) := by decide +kernel
theorem dX11_reckon_297 : decode cX11_reckon 297 = .ok (.invokevirtual 193, 3) := by decide +kernel
theorem dX11_reckon_300 : decode cX11_reckon 300 = .ok (.istore 7, 2) := by decide +kernel
theorem dX11_reckon_302 : decode cX11_reckon 302 = .ok (.aload_n 0, 1) := by decide +kernel
theorem dX11_reckon_303 : decode cX11_reckon 303 = .ok (.getfield 78, 3) := by decide +kernel
theorem dX11_reckon_306 : decode cX11_reckon 306 = .ok (.bipush 13, 2) := by decide +kernel
theorem dX11_reckon_308 : decode cX11_reckon 308 = .ok (.iload 5, 2) := by decide +kernel
theorem dX11_reckon_310 : decode cX11_reckon 310 = .ok (.imul, 1) := by decide +kernel
theorem dX11_reckon_311 : decode cX11_reckon 311 = .ok (.iload 6, 2) := by decide +kernel
theorem dX11_reckon_313 : decode cX11_reckon 313 = .ok (.iadd, 1) := by decide +kernel
theorem dX11_reckon_314 : decode cX11_reckon 314 = .ok (.iload 7, 2) := by decide +kernel
theorem dX11_reckon_316 : decode cX11_reckon 316 = .ok (.iastore, 1) := by decide +kernel
theorem dX11_reckon_317 : decode cX11_reckon 317 = .ok (.iinc 6 1, 3) := by decide +kernel
theorem dX11_reckon_320 : decode cX11_reckon 320 = .ok (.goto (-300), 3) := by decide +kernel
theorem dX11_reckon_323 : decode cX11_reckon 323 = .ok (.iinc 5 1, 3) := by decide +kernel
theorem dX11_reckon_326 : decode cX11_reckon 326 = .ok (.goto (-315), 3) := by decide +kernel
theorem dX11_reckon_329 : decode cX11_reckon 329 = .ok (.return_, 1) := by decide +kernel
theorem dX11_nearest_0 : decode cX11_nearest 0 = .ok (.aload_n 0, 1) := by decide +kernel
theorem dX11_nearest_1 : decode cX11_nearest 1 = .ok (.iconst (-1), 1) := by decide +kernel
theorem dX11_nearest_2 : decode cX11_nearest 2 = .ok (.putfield 201, 3) := by decide +kernel
theorem dX11_nearest_5 : decode cX11_nearest 5 = .ok (.iconst 0, 1) := by decide +kernel
theorem dX11_nearest_6 : decode cX11_nearest 6 = .ok (.istore 4, 2) := by decide +kernel
theorem dX11_nearest_8 : decode cX11_nearest 8 = .ok (.iload 4, 2) := by decide +kernel
theorem dX11_nearest_10 : decode cX11_nearest 10 = .ok (.aload_n 0, 1) := by decide +kernel
theorem dX11_nearest_11 : decode cX11_nearest 11 = .ok (.getfield 124, 3) := by decide +kernel
theorem dX11_nearest_14 : decode cX11_nearest 14 = .ok (.if_icmp .ge 107, 3) := by decide +kernel
theorem dX11_nearest_17 : decode cX11_nearest 17 = .ok (.aload_n 0, 1) := by decide +kernel
theorem dX11_nearest_18 : decode cX11_nearest 18 = .ok (.getfield 33, 3) := by decide +kernel
theorem dX11_nearest_21 : decode cX11_nearest 21 = .ok (.iload 4, 2) := by decide +kernel
theorem dX11_nearest_23 : decode cX11_nearest 23 = .ok (.iaload, 1) := by decide +kernel
theorem dX11_nearest_24 : decode cX11_nearest 24 = .ok (.iload_n 3, 1) := by decide +kernel
theorem dX11_nearest_25 : decode cX11_nearest 25 = .ok (.if_icmp .ne 90, 3) := by decide +kernel
theorem dX11_nearest_28 : decode cX11_nearest 28 = .ok (.aload_n 0, 1) := by decide +kernel
theorem dX11_nearest_29 : decode cX11_nearest 29 = .ok (.iload_n 1, 1) := by decide +kernel
theorem dX11_nearest_30 : decode cX11_nearest 30 = .ok (.iload_n 2, 1) := by decide +kernel
theorem dX11_nearest_31 : decode cX11_nearest 31 = .ok (.iload 4, 2) := by decide +kernel
theorem dX11_nearest_33 : decode cX11_nearest 33 = .ok (.invokevirtual 204, 3) := by decide +kernel
theorem dX11_nearest_36 : decode cX11_nearest 36 = .ok (.aload_n 0, 1) := by decide +kernel
theorem dX11_nearest_37 : decode cX11_nearest 37 = .ok (.getfield 78, 3) := by decide +kernel
theorem dX11_nearest_40 : decode cX11_nearest 40 = .ok (.bipush 13, 2) := by decide +kernel
theorem dX11_nearest_42 : decode cX11_nearest 42 = .ok (.iload_n 2, 1) := by decide +kernel
theorem dX11_nearest_43 : decode cX11_nearest 43 = .ok (.imul, 1) := by decide +kernel
theorem dX11_nearest_44 : decode cX11_nearest 44 = .ok (.aload_n 0, 1) := by decide +kernel
theorem dX11_nearest_45 : decode cX11_nearest 45 = .ok (.getfield 30, 3) := by decide +kernel
theorem dX11_nearest_48 : decode cX11_nearest 48 = .ok (.iload 4, 2) := by decide +kernel
theorem dX11_nearest_50 : decode cX11_nearest 50 = .ok (.iaload, 1) := by decide +kernel
theorem dX11_nearest_51 : decode cX11_nearest 51 = .ok (.iadd, 1) := by decide +kernel
theorem dX11_nearest_52 : decode cX11_nearest 52 = .ok (.iaload, 1) := by decide +kernel
theorem dX11_nearest_53 : decode cX11_nearest 53 = .ok (.istore 5, 2) := by decide +kernel
theorem dX11_nearest_55 : decode cX11_nearest 55 = .ok (.aload_n 0, 1) := by decide +kernel
theorem dX11_nearest_56 : decode cX11_nearest 56 = .ok (.getfield 201, 3) := by decide +kernel
theorem dX11_nearest_59 : decode cX11_nearest 59 = .ok (.iconst (-1), 1) := by decide +kernel
theorem dX11_nearest_60 : decode cX11_nearest 60 = .ok (.if_icmp .eq 12, 3) := by decide +kernel
theorem dX11_nearest_63 : decode cX11_nearest 63 = .ok (.iload 5, 2) := by decide +kernel
theorem dX11_nearest_65 : decode cX11_nearest 65 = .ok (.aload_n 0, 1) := by decide +kernel
theorem dX11_nearest_66 : decode cX11_nearest 66 = .ok (.getfield 208, 3) := by decide +kernel
theorem dX11_nearest_69 : decode cX11_nearest 69 = .ok (.if_icmp .ge 46, 3) := by decide +kernel
theorem dX11_nearest_72 : decode cX11_nearest 72 = .ok (.aload_n 0, 1) := by decide +kernel
theorem dX11_nearest_73 : decode cX11_nearest 73 = .ok (.iload 4, 2) := by decide +kernel
theorem dX11_nearest_75 : decode cX11_nearest 75 = .ok (.putfield 201, 3) := by decide +kernel
theorem dX11_nearest_78 : decode cX11_nearest 78 = .ok (.aload_n 0, 1) := by decide +kernel
theorem dX11_nearest_79 : decode cX11_nearest 79 = .ok (.iload 5, 2) := by decide +kernel
theorem dX11_nearest_81 : decode cX11_nearest 81 = .ok (.putfield 208, 3) := by decide +kernel
theorem dX11_nearest_84 : decode cX11_nearest 84 = .ok (.iconst 0, 1) := by decide +kernel
theorem dX11_nearest_85 : decode cX11_nearest 85 = .ok (.istore 6, 2) := by decide +kernel
theorem dX11_nearest_87 : decode cX11_nearest 87 = .ok (.iload 6, 2) := by decide +kernel
theorem dX11_nearest_89 : decode cX11_nearest 89 = .ok (.sipush 1053, 3) := by decide +kernel
theorem dX11_nearest_92 : decode cX11_nearest 92 = .ok (.if_icmp .ge 23, 3) := by decide +kernel
theorem dX11_nearest_95 : decode cX11_nearest 95 = .ok (.aload_n 0, 1) := by decide +kernel
theorem dX11_nearest_96 : decode cX11_nearest 96 = .ok (.getfield 81, 3) := by decide +kernel
theorem dX11_nearest_99 : decode cX11_nearest 99 = .ok (.iload 6, 2) := by decide +kernel
theorem dX11_nearest_101 : decode cX11_nearest 101 = .ok (.aload_n 0, 1) := by decide +kernel
theorem dX11_nearest_102 : decode cX11_nearest 102 = .ok (.getfield 78, 3) := by decide +kernel
theorem dX11_nearest_105 : decode cX11_nearest 105 = .ok (.iload 6, 2) := by decide +kernel
theorem dX11_nearest_107 : decode cX11_nearest 107 = .ok (.iaload, 1) := by decide +kernel
theorem dX11_nearest_108 : decode cX11_nearest 108 = .ok (.iastore, 1) := by decide +kernel
theorem dX11_nearest_109 : decode cX11_nearest 109 = .ok (.iinc 6 1, 3) := by decide +kernel
theorem dX11_nearest_112 : decode cX11_nearest 112 = .ok (.goto (-25), 3) := by decide +kernel
theorem dX11_nearest_115 : decode cX11_nearest 115 = .ok (.iinc 4 1, 3) := by decide +kernel
theorem dX11_nearest_118 : decode cX11_nearest 118 = .ok (.goto (-110), 3) := by decide +kernel
theorem dX11_nearest_121 : decode cX11_nearest 121 = .ok (.return_, 1) := by decide +kernel
theorem dX11_wouldFit_0 : decode cX11_wouldFit 0 = .ok (.iconst 0, 1) := by decide +kernel
theorem dX11_wouldFit_1 : decode cX11_wouldFit 1 = .ok (.istore_n 2, 1) := by decide +kernel
theorem dX11_wouldFit_2 : decode cX11_wouldFit 2 = .ok (.aload_n 0, 1) := by decide +kernel
theorem dX11_wouldFit_3 : decode cX11_wouldFit 3 = .ok (.getfield 72, 3) := by decide +kernel
theorem dX11_wouldFit_6 : decode cX11_wouldFit 6 = .ok (.iload_n 2, 1) := by decide +kernel
theorem dX11_wouldFit_7 : decode cX11_wouldFit 7 = .ok (.iaload, 1) := by decide +kernel
theorem dX11_wouldFit_8 : decode cX11_wouldFit 8 = .ok (.aload_n 0, 1) := by decide +kernel
theorem dX11_wouldFit_9 : decode cX11_wouldFit 9 = .ok (.getfield 180, 3) := by decide +kernel
theorem dX11_wouldFit_12 : decode cX11_wouldFit 12 = .ok (.if_icmp .eq 9, 3) := by decide +kernel
theorem dX11_wouldFit_15 : decode cX11_wouldFit 15 = .ok (.iinc 2 1, 3) := by decide +kernel
theorem dX11_wouldFit_18 : decode cX11_wouldFit 18 = .ok (.goto (-16), 3) := by decide +kernel
theorem dX11_wouldFit_21 : decode cX11_wouldFit 21 = .ok (.aload_n 0, 1) := by decide +kernel
theorem dX11_wouldFit_22 : decode cX11_wouldFit 22 = .ok (.getfield 75, 3) := by decide +kernel
theorem dX11_wouldFit_25 : decode cX11_wouldFit 25 = .ok (.iload_n 2, 1) := by decide +kernel
theorem dX11_wouldFit_26 : decode cX11_wouldFit 26 = .ok (.iload_n 1, 1) := by decide +kernel
theorem dX11_wouldFit_27 : decode cX11_wouldFit 27 = .ok (.iastore, 1) := by decide +kernel
theorem dX11_wouldFit_28 : decode cX11_wouldFit 28 = .ok (.aload_n 0, 1) := by decide +kernel
theorem dX11_wouldFit_29 : decode cX11_wouldFit 29 = .ok (.invokevirtual 186, 3) := by decide +kernel
theorem dX11_wouldFit_32 : decode cX11_wouldFit 32 = .ok (.iconst (-1), 1) := by decide +kernel
theorem dX11_wouldFit_33 : decode cX11_wouldFit 33 = .ok (.if_icmp .eq 7, 3) := by decide +kernel
theorem dX11_wouldFit_36 : decode cX11_wouldFit 36 = .ok (.iconst 1, 1) := by decide +kernel
theorem dX11_wouldFit_37 : decode cX11_wouldFit 37 = .ok (.goto 4, 3) := by decide +kernel
theorem dX11_wouldFit_40 : decode cX11_wouldFit 40 = .ok (.iconst 0, 1) := by decide +kernel
theorem dX11_wouldFit_41 : decode cX11_wouldFit 41 = .ok (.istore_n 3, 1) := by decide +kernel
theorem dX11_wouldFit_42 : decode cX11_wouldFit 42 = .ok (.aload_n 0, 1) := by decide +kernel
theorem dX11_wouldFit_43 : decode cX11_wouldFit 43 = .ok (.getfield 75, 3) := by decide +kernel
theorem dX11_wouldFit_46 : decode cX11_wouldFit 46 = .ok (.iload_n 2, 1) := by decide +kernel
theorem dX11_wouldFit_47 : decode cX11_wouldFit 47 = .ok (.iconst (-1), 1) := by decide +kernel
theorem dX11_wouldFit_48 : decode cX11_wouldFit 48 = .ok (.iastore, 1) := by decide +kernel
theorem dX11_wouldFit_49 : decode cX11_wouldFit 49 = .ok (.iload_n 3, 1) := by decide +kernel
theorem dX11_wouldFit_50 : decode cX11_wouldFit 50 = .ok (.ireturn, 1) := by decide +kernel
theorem dX11_propose_0 : decode cX11_propose 0 = .ok (.aload_n 0, 1) := by decide +kernel
theorem dX11_propose_1 : decode cX11_propose 1 = .ok (.invokevirtual 190, 3) := by decide +kernel
theorem dX11_propose_4 : decode cX11_propose 4 = .ok (.aload_n 0, 1) := by decide +kernel
theorem dX11_propose_5 : decode cX11_propose 5 = .ok (.iconst 0, 1) := by decide +kernel
theorem dX11_propose_6 : decode cX11_propose 6 = .ok (.putfield 211, 3) := by decide +kernel
theorem dX11_propose_9 : decode cX11_propose 9 = .ok (.aload_n 0, 1) := by decide +kernel
theorem dX11_propose_10 : decode cX11_propose 10 = .ok (.getfield 183, 3) := by decide +kernel
theorem dX11_propose_13 : decode cX11_propose 13 = .ok (.iconst 3, 1) := by decide +kernel
theorem dX11_propose_14 : decode cX11_propose 14 = .ok (.if_icmp .ne 13, 3) := by decide +kernel
theorem dX11_propose_17 : decode cX11_propose 17 = .ok (.aload_n 0, 1) := by decide +kernel
theorem dX11_propose_18 : decode cX11_propose 18 = .ok (.getfield 45, 3) := by decide +kernel
theorem dX11_propose_21 : decode cX11_propose 21 = .ok (.bipush 7, 2) := by decide +kernel
theorem dX11_propose_23 : decode cX11_propose 23 = .ok (.iaload, 1) := by decide +kernel
theorem dX11_propose_24 : decode cX11_propose 24 = .ok (.ifCond .ne 4, 3) := by decide +kernel
theorem dX11_propose_27 : decode cX11_propose 27 = .ok (.return_, 1) := by decide +kernel
theorem dX11_propose_28 : decode cX11_propose 28 = .ok (.aload_n 0, 1) := by decide +kernel
theorem dX11_propose_29 : decode cX11_propose 29 = .ok (.getfield 66, 3) := by decide +kernel
theorem dX11_propose_32 : decode cX11_propose 32 = .ok (.aload_n 0, 1) := by decide +kernel
theorem dX11_propose_33 : decode cX11_propose 33 = .ok (.getfield 180, 3) := by decide +kernel
theorem dX11_propose_36 : decode cX11_propose 36 = .ok (.iaload, 1) := by decide +kernel
theorem dX11_propose_37 : decode cX11_propose 37 = .ok (.istore_n 1, 1) := by decide +kernel
theorem dX11_propose_38 : decode cX11_propose 38 = .ok (.iconst 0, 1) := by decide +kernel
theorem dX11_propose_39 : decode cX11_propose 39 = .ok (.istore_n 2, 1) := by decide +kernel
theorem dX11_propose_40 : decode cX11_propose 40 = .ok (.iload_n 2, 1) := by decide +kernel
theorem dX11_propose_41 : decode cX11_propose 41 = .ok (.aload_n 0, 1) := by decide +kernel
theorem dX11_propose_42 : decode cX11_propose 42 = .ok (.getfield 140, 3) := by decide +kernel
theorem dX11_propose_45 : decode cX11_propose 45 = .ok (.if_icmp .ge 236, 3) := by decide +kernel
theorem dX11_propose_48 : decode cX11_propose 48 = .ok (.aload_n 0, 1) := by decide +kernel
theorem dX11_propose_49 : decode cX11_propose 49 = .ok (.iload_n 2, 1) := by decide +kernel
theorem dX11_propose_50 : decode cX11_propose 50 = .ok (.invokevirtual 174, 3) := by decide +kernel
theorem dX11_propose_53 : decode cX11_propose 53 = .ok (.ifCond .eq 222, 3) := by decide +kernel
theorem dX11_propose_56 : decode cX11_propose 56 = .ok (.aload_n 0, 1) := by decide +kernel
theorem dX11_propose_57 : decode cX11_propose 57 = .ok (.getfield 13, 3) := by decide +kernel
theorem dX11_propose_60 : decode cX11_propose 60 = .ok (.iload_n 2, 1) := by decide +kernel
theorem dX11_propose_61 : decode cX11_propose 61 = .ok (.iaload, 1) := by decide +kernel
theorem dX11_propose_62 : decode cX11_propose 62 = .ok (.iconst 3, 1) := by decide +kernel
theorem dX11_propose_63 : decode cX11_propose 63 = .ok (.if_icmp .eq 212, 3) := by decide +kernel
theorem dX11_propose_66 : decode cX11_propose 66 = .ok (.aload_n 0, 1) := by decide +kernel
theorem dX11_propose_67 : decode cX11_propose 67 = .ok (.aload_n 0, 1) := by decide +kernel
theorem dX11_propose_68 : decode cX11_propose 68 = .ok (.getfield 63, 3) := by decide +kernel
theorem dX11_propose_71 : decode cX11_propose 71 = .ok (.aload_n 0, 1) := by decide +kernel
theorem dX11_propose_72 : decode cX11_propose 72 = .ok (.getfield 180, 3) := by decide +kernel
theorem dX11_propose_75 : decode cX11_propose 75 = .ok (.iaload, 1) := by decide +kernel
theorem dX11_propose_76 : decode cX11_propose 76 = .ok (.iload_n 1, 1) := by decide +kernel
theorem dX11_propose_77 : decode cX11_propose 77 = .ok (.iload_n 2, 1) := by decide +kernel
theorem dX11_propose_78 : decode cX11_propose 78 = .ok (.invokevirtual 214, 3) := by decide +kernel
theorem dX11_propose_81 : decode cX11_propose 81 = .ok (.aload_n 0, 1) := by decide +kernel
theorem dX11_propose_82 : decode cX11_propose 82 = .ok (.getfield 208, 3) := by decide +kernel
theorem dX11_propose_85 : decode cX11_propose 85 = .ok (.istore_n 3, 1) := by decide +kernel
theorem dX11_propose_86 : decode cX11_propose 86 = .ok (.iload_n 3, 1) := by decide +kernel
theorem dX11_propose_87 : decode cX11_propose 87 = .ok (.aload_n 0, 1) := by decide +kernel
theorem dX11_propose_88 : decode cX11_propose 88 = .ok (.getfield 45, 3) := by decide +kernel
theorem dX11_propose_91 : decode cX11_propose 91 = .ok (.iconst 5, 1) := by decide +kernel
theorem dX11_propose_92 : decode cX11_propose 92 = .ok (.iaload, 1) := by decide +kernel
theorem dX11_propose_93 : decode cX11_propose 93 = .ok (.if_icmp .gt 182, 3) := by decide +kernel
theorem dX11_propose_96 : decode cX11_propose 96 = .ok (.iload_n 3, 1) := by decide +kernel
theorem dX11_propose_97 : decode cX11_propose 97 = .ok (.aload_n 0, 1) := by decide +kernel
theorem dX11_propose_98 : decode cX11_propose 98 = .ok (.getfield 45, 3) := by decide +kernel
theorem dX11_propose_101 : decode cX11_propose 101 = .ok (.iconst 0, 1) := by decide +kernel
theorem dX11_propose_102 : decode cX11_propose 102 = .ok (.iaload, 1) := by decide +kernel
theorem dX11_propose_103 : decode cX11_propose 103 = .ok (.iload_n 1, 1) := by decide +kernel
theorem dX11_propose_104 : decode cX11_propose 104 = .ok (.imul, 1) := by decide +kernel
theorem dX11_propose_105 : decode cX11_propose 105 = .ok (.aload_n 0, 1) := by decide +kernel
theorem dX11_propose_106 : decode cX11_propose 106 = .ok (.getfield 45, 3) := by decide +kernel
theorem dX11_propose_109 : decode cX11_propose 109 = .ok (.iconst 1, 1) := by decide +kernel
theorem dX11_propose_110 : decode cX11_propose 110 = .ok (.iaload, 1) := by decide +kernel
theorem dX11_propose_111 : decode cX11_propose 111 = .ok (.aload_n 0, 1) := by decide +kernel
theorem dX11_propose_112 : decode cX11_propose 112 = .ok (.getfield 30, 3) := by decide +kernel
theorem dX11_propose_115 : decode cX11_propose 115 = .ok (.aload_n 0, 1) := by decide +kernel
theorem dX11_propose_116 : decode cX11_propose 116 = .ok (.getfield 201, 3) := by decide +kernel
theorem dX11_propose_119 : decode cX11_propose 119 = .ok (.iaload, 1) := by decide +kernel
theorem dX11_propose_120 : decode cX11_propose 120 = .ok (.imul, 1) := by decide +kernel
theorem dX11_propose_121 : decode cX11_propose 121 = .ok (.iadd, 1) := by decide +kernel
theorem dX11_propose_122 : decode cX11_propose 122 = .ok (.if_icmp .ge 153, 3) := by decide +kernel
theorem dX11_propose_125 : decode cX11_propose 125 = .ok (.aload_n 0, 1) := by decide +kernel
theorem dX11_propose_126 : decode cX11_propose 126 = .ok (.iload_n 2, 1) := by decide +kernel
theorem dX11_propose_127 : decode cX11_propose 127 = .ok (.invokevirtual 217, 3) := by decide +kernel
theorem dX11_propose_130 : decode cX11_propose 130 = .ok (.istore 4, 2) := by decide +kernel
theorem dX11_propose_132 : decode cX11_propose 132 = .ok (.aload_n 0, 1) := by decide +kernel
theorem dX11_propose_133 : decode cX11_propose 133 = .ok (.getfield 211, 3) := by decide +kernel
theorem dX11_propose_136 : decode cX11_propose 136 = .ok (.istore 5, 2) := by decide +kernel
theorem dX11_propose_138 : decode cX11_propose 138 = .ok (.iload 5, 2) := by decide +kernel
theorem dX11_propose_140 : decode cX11_propose 140 = .ok (.ifCond .le 100, 3) := by decide +kernel
theorem dX11_propose_143 : decode cX11_propose 143 = .ok (.aload_n 0, 1) := by decide +kernel
theorem dX11_propose_144 : decode cX11_propose 144 = .ok (.getfield 87, 3) := by decide +kernel
theorem dX11_propose_147 : decode cX11_propose 147 = .ok (.iload 5, 2) := by decide +kernel
theorem dX11_propose_149 : decode cX11_propose 149 = .ok (.iconst 1, 1) := by decide +kernel
theorem dX11_propose_150 : decode cX11_propose 150 = .ok (.isub, 1) := by decide +kernel
theorem dX11_propose_151 : decode cX11_propose 151 = .ok (.iaload, 1) := by decide +kernel
theorem dX11_propose_152 : decode cX11_propose 152 = .ok (.iload_n 3, 1) := by decide +kernel
theorem dX11_propose_153 : decode cX11_propose 153 = .ok (.if_icmp .gt 33, 3) := by decide +kernel
theorem dX11_propose_156 : decode cX11_propose 156 = .ok (.aload_n 0, 1) := by decide +kernel
theorem dX11_propose_157 : decode cX11_propose 157 = .ok (.getfield 87, 3) := by decide +kernel
theorem dX11_propose_160 : decode cX11_propose 160 = .ok (.iload 5, 2) := by decide +kernel
theorem dX11_propose_162 : decode cX11_propose 162 = .ok (.iconst 1, 1) := by decide +kernel
theorem dX11_propose_163 : decode cX11_propose 163 = .ok (.isub, 1) := by decide +kernel
theorem dX11_propose_164 : decode cX11_propose 164 = .ok (.iaload, 1) := by decide +kernel
theorem dX11_propose_165 : decode cX11_propose 165 = .ok (.iload_n 3, 1) := by decide +kernel
theorem dX11_propose_166 : decode cX11_propose 166 = .ok (.if_icmp .ne 74, 3) := by decide +kernel
theorem dX11_propose_169 : decode cX11_propose 169 = .ok (.iload 4, 2) := by decide +kernel
theorem dX11_propose_171 : decode cX11_propose 171 = .ok (.ifCond .eq 69, 3) := by decide +kernel
theorem dX11_propose_174 : decode cX11_propose 174 = .ok (.aload_n 0, 1) := by decide +kernel
theorem dX11_propose_175 : decode cX11_propose 175 = .ok (.getfield 90, 3) := by decide +kernel
theorem dX11_propose_178 : decode cX11_propose 178 = .ok (.iload 5, 2) := by decide +kernel
theorem dX11_propose_180 : decode cX11_propose 180 = .ok (.iconst 1, 1) := by decide +kernel
theorem dX11_propose_181 : decode cX11_propose 181 = .ok (.isub, 1) := by decide +kernel
theorem dX11_propose_182 : decode cX11_propose 182 = .ok (.baload, 1) := by decide +kernel
theorem dX11_propose_183 : decode cX11_propose 183 = .ok (.ifCond .ne 57, 3) := by decide +kernel
theorem dX11_propose_186 : decode cX11_propose 186 = .ok (.aload_n 0, 1) := by decide +kernel
theorem dX11_propose_187 : decode cX11_propose 187 = .ok (.getfield 84, 3) := by decide +kernel
theorem dX11_propose_190 : decode cX11_propose 190 = .ok (.iload 5, 2) := by decide +kernel
theorem dX11_propose_192 : decode cX11_propose 192 = .ok (.aload_n 0, 1) := by decide +kernel
theorem dX11_propose_193 : decode cX11_propose 193 = .ok (.getfield 84, 3) := by decide +kernel
theorem dX11_propose_196 : decode cX11_propose 196 = .ok (.iload 5, 2) := by decide +kernel
theorem dX11_propose_198 : decode cX11_propose 198 = .ok (.iconst 1, 1) := by decide +kernel
theorem dX11_propose_199 : decode cX11_propose 199 = .ok (.isub, 1) := by decide +kernel
theorem dX11_propose_200 : decode cX11_propose 200 = .ok (.iaload, 1) := by decide +kernel
theorem dX11_propose_201 : decode cX11_propose 201 = .ok (.iastore, 1) := by decide +kernel
theorem dX11_propose_202 : decode cX11_propose 202 = .ok (.aload_n 0, 1) := by decide +kernel
theorem dX11_propose_203 : decode cX11_propose 203 = .ok (.getfield 87, 3) := by decide +kernel
theorem dX11_propose_206 : decode cX11_propose 206 = .ok (.iload 5, 2) := by decide +kernel
theorem dX11_propose_208 : decode cX11_propose 208 = .ok (.aload_n 0, 1) := by decide +kernel
theorem dX11_propose_209 : decode cX11_propose 209 = .ok (.getfield 87, 3) := by decide +kernel
theorem dX11_propose_212 : decode cX11_propose 212 = .ok (.iload 5, 2) := by decide +kernel
theorem dX11_propose_214 : decode cX11_propose 214 = .ok (.iconst 1, 1) := by decide +kernel
theorem dX11_propose_215 : decode cX11_propose 215 = .ok (.isub, 1) := by decide +kernel
theorem dX11_propose_216 : decode cX11_propose 216 = .ok (.iaload, 1) := by decide +kernel
theorem dX11_propose_217 : decode cX11_propose 217 = .ok (.iastore, 1) := by decide +kernel
theorem dX11_propose_218 : decode cX11_propose 218 = .ok (.aload_n 0, 1) := by decide +kernel
theorem dX11_propose_219 : decode cX11_propose 219 = .ok (.getfield 90, 3) := by decide +kernel
theorem dX11_propose_222 : decode cX11_propose 222 = .ok (.iload 5, 2) := by decide +kernel
theorem dX11_propose_224 : decode cX11_propose 224 = .ok (.aload_n 0, 1) := by decide +kernel
theorem dX11_propose_225 : decode cX11_propose 225 = .ok (.getfield 90, 3) := by decide +kernel
theorem dX11_propose_228 : decode cX11_propose 228 = .ok (.iload 5, 2) := by decide +kernel
theorem dX11_propose_230 : decode cX11_propose 230 = .ok (.iconst 1, 1) := by decide +kernel
theorem dX11_propose_231 : decode cX11_propose 231 = .ok (.isub, 1) := by decide +kernel
theorem dX11_propose_232 : decode cX11_propose 232 = .ok (.baload, 1) := by decide +kernel
theorem dX11_propose_233 : decode cX11_propose 233 = .ok (.bastore, 1) := by decide +kernel
theorem dX11_propose_234 : decode cX11_propose 234 = .ok (.iinc 5 (-1), 3) := by decide +kernel
theorem dX11_propose_237 : decode cX11_propose 237 = .ok (.goto (-99), 3) := by decide +kernel
theorem dX11_propose_240 : decode cX11_propose 240 = .ok (.aload_n 0, 1) := by decide +kernel
theorem dX11_propose_241 : decode cX11_propose 241 = .ok (.getfield 84, 3) := by decide +kernel
theorem dX11_propose_244 : decode cX11_propose 244 = .ok (.iload 5, 2) := by decide +kernel
theorem dX11_propose_246 : decode cX11_propose 246 = .ok (.iload_n 2, 1) := by decide +kernel
theorem dX11_propose_247 : decode cX11_propose 247 = .ok (.iastore, 1) := by decide +kernel
theorem dX11_propose_248 : decode cX11_propose 248 = .ok (.aload_n 0, 1) := by decide +kernel
theorem dX11_propose_249 : decode cX11_propose 249 = .ok (.getfield 87, 3) := by decide +kernel
theorem dX11_propose_252 : decode cX11_propose 252 = .ok (.iload 5, 2) := by decide +kernel
theorem dX11_propose_254 : decode cX11_propose 254 = .ok (.iload_n 3, 1) := by decide +kernel
theorem dX11_propose_255 : decode cX11_propose 255 = .ok (.iastore, 1) := by decide +kernel
theorem dX11_propose_256 : decode cX11_propose 256 = .ok (.aload_n 0, 1) := by decide +kernel
theorem dX11_propose_257 : decode cX11_propose 257 = .ok (.getfield 90, 3) := by decide +kernel
theorem dX11_propose_260 : decode cX11_propose 260 = .ok (.iload 5, 2) := by decide +kernel
theorem dX11_propose_262 : decode cX11_propose 262 = .ok (.iload 4, 2) := by decide +kernel
theorem dX11_propose_264 : decode cX11_propose 264 = .ok (.bastore, 1) := by decide +kernel
theorem dX11_propose_265 : decode cX11_propose 265 = .ok (.aload_n 0, 1) := by decide +kernel
theorem dX11_propose_266 : decode cX11_propose 266 = .ok (.dup, 1) := by decide +kernel
theorem dX11_propose_267 : decode cX11_propose 267 = .ok (.getfield 211, 3) := by decide +kernel
theorem dX11_propose_270 : decode cX11_propose 270 = .ok (.iconst 1, 1) := by decide +kernel
theorem dX11_propose_271 : decode cX11_propose 271 = .ok (.iadd, 1) := by decide +kernel
theorem dX11_propose_272 : decode cX11_propose 272 = .ok (.putfield 211, 3) := by decide +kernel
theorem dX11_propose_275 : decode cX11_propose 275 = .ok (.iinc 2 1, 3) := by decide +kernel
theorem dX11_propose_278 : decode cX11_propose 278 = .ok (.goto (-238), 3) := by decide +kernel
theorem dX11_propose_281 : decode cX11_propose 281 = .ok (.return_, 1) := by decide +kernel
theorem dX11_proposal_0 : decode cX11_proposal 0 = .ok (.aload_n 0, 1) := by decide +kernel
theorem dX11_proposal_1 : decode cX11_proposal 1 = .ok (.iconst 0, 1) := by decide +kernel
theorem dX11_proposal_2 : decode cX11_proposal 2 = .ok (.putfield 1, 3) := by decide +kernel
theorem dX11_proposal_5 : decode cX11_proposal 5 = .ok (.aload_n 0, 1) := by decide +kernel
theorem dX11_proposal_6 : decode cX11_proposal 6 = .ok (.invokevirtual 220, 3) := by decide +kernel
theorem dX11_proposal_9 : decode cX11_proposal 9 = .ok (.iload_n 1, 1) := by decide +kernel
theorem dX11_proposal_10 : decode cX11_proposal 10 = .ok (.iconst 0, 1) := by decide +kernel
theorem dX11_proposal_11 : decode cX11_proposal 11 = .ok (.aload_n 0, 1) := by decide +kernel
theorem dX11_proposal_12 : decode cX11_proposal 12 = .ok (.getfield 211, 3) := by decide +kernel
theorem dX11_proposal_15 : decode cX11_proposal 15 = .ok (.iconst 1, 1) := by decide +kernel
theorem dX11_proposal_16 : decode cX11_proposal 16 = .ok (.isub, 1) := by decide +kernel
theorem dX11_proposal_17 : decode cX11_proposal 17 = .ok (.invokestatic 120, 3) := by decide +kernel
theorem dX11_proposal_20 : decode cX11_proposal 20 = .ok (.ifCond .eq 12, 3) := by decide +kernel
theorem dX11_proposal_23 : decode cX11_proposal 23 = .ok (.iload_n 2, 1) := by decide +kernel
theorem dX11_proposal_24 : decode cX11_proposal 24 = .ok (.iconst 0, 1) := by decide +kernel
theorem dX11_proposal_25 : decode cX11_proposal 25 = .ok (.iconst 2, 1) := by decide +kernel
theorem dX11_proposal_26 : decode cX11_proposal 26 = .ok (.invokestatic 120, 3) := by decide +kernel
theorem dX11_proposal_29 : decode cX11_proposal 29 = .ok (.ifCond .ne 6, 3) := by decide +kernel
theorem dX11_proposal_32 : decode cX11_proposal 32 = .ok (.bipush (-2), 2) := by decide +kernel
theorem dX11_proposal_34 : decode cX11_proposal 34 = .ok (.ireturn, 1) := by decide +kernel
theorem dX11_proposal_35 : decode cX11_proposal 35 = .ok (.iload_n 2, 1) := by decide +kernel
theorem dX11_proposal_36 : decode cX11_proposal 36 = .ok (.ifCond .ne 12, 3) := by decide +kernel
theorem dX11_proposal_39 : decode cX11_proposal 39 = .ok (.aload_n 0, 1) := by decide +kernel
theorem dX11_proposal_40 : decode cX11_proposal 40 = .ok (.getfield 84, 3) := by decide +kernel
theorem dX11_proposal_43 : decode cX11_proposal 43 = .ok (.iload_n 1, 1) := by decide +kernel
theorem dX11_proposal_44 : decode cX11_proposal 44 = .ok (.iaload, 1) := by decide +kernel
theorem dX11_proposal_45 : decode cX11_proposal 45 = .ok (.goto 31, 3) := by decide +kernel
theorem dX11_proposal_48 : decode cX11_proposal 48 = .ok (.iload_n 2, 1) := by decide +kernel
theorem dX11_proposal_49 : decode cX11_proposal 49 = .ok (.iconst 1, 1) := by decide +kernel
theorem dX11_proposal_50 : decode cX11_proposal 50 = .ok (.if_icmp .ne 12, 3) := by decide +kernel
theorem dX11_proposal_53 : decode cX11_proposal 53 = .ok (.aload_n 0, 1) := by decide +kernel
theorem dX11_proposal_54 : decode cX11_proposal 54 = .ok (.getfield 87, 3) := by decide +kernel
theorem dX11_proposal_57 : decode cX11_proposal 57 = .ok (.iload_n 1, 1) := by decide +kernel
theorem dX11_proposal_58 : decode cX11_proposal 58 = .ok (.iaload, 1) := by decide +kernel
theorem dX11_proposal_59 : decode cX11_proposal 59 = .ok (.goto 17, 3) := by decide +kernel
theorem dX11_proposal_62 : decode cX11_proposal 62 = .ok (.aload_n 0, 1) := by decide +kernel
theorem dX11_proposal_63 : decode cX11_proposal 63 = .ok (.getfield 90, 3) := by decide +kernel
theorem dX11_proposal_66 : decode cX11_proposal 66 = .ok (.iload_n 1, 1) := by decide +kernel
theorem dX11_proposal_67 : decode cX11_proposal 67 = .ok (.baload, 1) := by decide +kernel
theorem dX11_proposal_68 : decode cX11_proposal 68 = .ok (.ifCond .eq 7, 3) := by decide +kernel
theorem dX11_proposal_71 : decode cX11_proposal 71 = .ok (.iconst 1, 1) := by decide +kernel
theorem dX11_proposal_72 : decode cX11_proposal 72 = .ok (.goto 4, 3) := by decide +kernel
theorem dX11_proposal_75 : decode cX11_proposal 75 = .ok (.iconst 0, 1) := by decide +kernel
theorem dX11_proposal_76 : decode cX11_proposal 76 = .ok (.ireturn, 1) := by decide +kernel
theorem dX11_isLogged_0 : decode cX11_isLogged 0 = .ok (.aload_n 0, 1) := by decide +kernel
theorem dX11_isLogged_1 : decode cX11_isLogged 1 = .ok (.getfield 96, 3) := by decide +kernel
theorem dX11_isLogged_4 : decode cX11_isLogged 4 = .ok (.iload_n 1, 1) := by decide +kernel
theorem dX11_isLogged_5 : decode cX11_isLogged 5 = .ok (.iaload, 1) := by decide +kernel
theorem dX11_isLogged_6 : decode cX11_isLogged 6 = .ok (.iload_n 3, 1) := by decide +kernel
theorem dX11_isLogged_7 : decode cX11_isLogged 7 = .ok (.if_icmp .ne 7, 3) := by decide +kernel
theorem dX11_isLogged_10 : decode cX11_isLogged 10 = .ok (.iconst 1, 1) := by decide +kernel
theorem dX11_isLogged_11 : decode cX11_isLogged 11 = .ok (.goto 4, 3) := by decide +kernel
theorem dX11_isLogged_14 : decode cX11_isLogged 14 = .ok (.iconst 0, 1) := by decide +kernel
theorem dX11_isLogged_15 : decode cX11_isLogged 15 = .ok (.istore 4, 2) := by decide +kernel
theorem dX11_isLogged_17 : decode cX11_isLogged 17 = .ok (.iconst 0, 1) := by decide +kernel
theorem dX11_isLogged_18 : decode cX11_isLogged 18 = .ok (.istore 5, 2) := by decide +kernel
theorem dX11_isLogged_20 : decode cX11_isLogged 20 = .ok (.iload 5, 2) := by decide +kernel
theorem dX11_isLogged_22 : decode cX11_isLogged 22 = .ok (.iload_n 3, 1) := by decide +kernel
theorem dX11_isLogged_23 : decode cX11_isLogged 23 = .ok (.if_icmp .ge 48, 3) := by decide +kernel
theorem dX11_isLogged_26 : decode cX11_isLogged 26 = .ok (.iload 4, 2) := by decide +kernel
theorem dX11_isLogged_28 : decode cX11_isLogged 28 = .ok (.ifCond .eq 43, 3) := by decide +kernel
theorem dX11_isLogged_31 : decode cX11_isLogged 31 = .ok (.aload_n 0, 1) := by decide +kernel
theorem dX11_isLogged_32 : decode cX11_isLogged 32 = .ok (.getfield 93, 3) := by decide +kernel
theorem dX11_isLogged_35 : decode cX11_isLogged 35 = .ok (.bipush 12, 2) := by decide +kernel
theorem dX11_isLogged_37 : decode cX11_isLogged 37 = .ok (.iload_n 1, 1) := by decide +kernel
theorem dX11_isLogged_38 : decode cX11_isLogged 38 = .ok (.imul, 1) := by decide +kernel
theorem dX11_isLogged_39 : decode cX11_isLogged 39 = .ok (.iload 5, 2) := by decide +kernel
theorem dX11_isLogged_41 : decode cX11_isLogged 41 = .ok (.iadd, 1) := by decide +kernel
theorem dX11_isLogged_42 : decode cX11_isLogged 42 = .ok (.iaload, 1) := by decide +kernel
theorem dX11_isLogged_43 : decode cX11_isLogged 43 = .ok (.aload_n 0, 1) := by decide +kernel
theorem dX11_isLogged_44 : decode cX11_isLogged 44 = .ok (.getfield 54, 3) := by decide +kernel
theorem dX11_isLogged_47 : decode cX11_isLogged 47 = .ok (.iload_n 2, 1) := by decide +kernel
theorem dX11_isLogged_48 : decode cX11_isLogged 48 = .ok (.iload 5, 2) := by decide +kernel
theorem dX11_isLogged_50 : decode cX11_isLogged 50 = .ok (.iadd, 1) := by decide +kernel
theorem dX11_isLogged_51 : decode cX11_isLogged 51 = .ok (.iaload, 1) := by decide +kernel
theorem dX11_isLogged_52 : decode cX11_isLogged 52 = .ok (.invokestatic 127, 3) := by decide +kernel
theorem dX11_isLogged_55 : decode cX11_isLogged 55 = .ok (.if_icmp .ne 7, 3) := by decide +kernel
theorem dX11_isLogged_58 : decode cX11_isLogged 58 = .ok (.iconst 1, 1) := by decide +kernel
theorem dX11_isLogged_59 : decode cX11_isLogged 59 = .ok (.goto 4, 3) := by decide +kernel
theorem dX11_isLogged_62 : decode cX11_isLogged 62 = .ok (.iconst 0, 1) := by decide +kernel
theorem dX11_isLogged_63 : decode cX11_isLogged 63 = .ok (.istore 4, 2) := by decide +kernel
theorem dX11_isLogged_65 : decode cX11_isLogged 65 = .ok (.iinc 5 1, 3) := by decide +kernel
theorem dX11_isLogged_68 : decode cX11_isLogged 68 = .ok (.goto (-48), 3) := by decide +kernel
theorem dX11_isLogged_71 : decode cX11_isLogged 71 = .ok (.iload 4, 2) := by decide +kernel
theorem dX11_isLogged_73 : decode cX11_isLogged 73 = .ok (.ireturn, 1) := by decide +kernel
theorem dX11_log_0 : decode cX11_log 0 = .ok (.iload_n 2, 1) := by decide +kernel
theorem dX11_log_1 : decode cX11_log 1 = .ok (.bipush 12, 2) := by decide +kernel
theorem dX11_log_3 : decode cX11_log 3 = .ok (.if_icmp .le 4, 3) := by decide +kernel
theorem dX11_log_6 : decode cX11_log 6 = .ok (.return_, 1) := by decide +kernel
theorem dX11_log_7 : decode cX11_log 7 = .ok (.iconst 0, 1) := by decide +kernel
theorem dX11_log_8 : decode cX11_log 8 = .ok (.istore 4, 2) := by decide +kernel
theorem dX11_log_10 : decode cX11_log 10 = .ok (.iload 4, 2) := by decide +kernel
theorem dX11_log_12 : decode cX11_log 12 = .ok (.aload_n 0, 1) := by decide +kernel
theorem dX11_log_13 : decode cX11_log 13 = .ok (.getfield 223, 3) := by decide +kernel
theorem dX11_log_16 : decode cX11_log 16 = .ok (.if_icmp .ge 43, 3) := by decide +kernel
theorem dX11_log_19 : decode cX11_log 19 = .ok (.aload_n 0, 1) := by decide +kernel
theorem dX11_log_20 : decode cX11_log 20 = .ok (.getfield 99, 3) := by decide +kernel
theorem dX11_log_23 : decode cX11_log 23 = .ok (.iload 4, 2) := by decide +kernel
theorem dX11_log_25 : decode cX11_log 25 = .ok (.iaload, 1) := by decide +kernel
theorem dX11_log_26 : decode cX11_log 26 = .ok (.iload_n 3, 1) := by decide +kernel
theorem dX11_log_27 : decode cX11_log 27 = .ok (.if_icmp .ne 26, 3) := by decide +kernel
theorem dX11_log_30 : decode cX11_log 30 = .ok (.aload_n 0, 1) := by decide +kernel
theorem dX11_log_31 : decode cX11_log 31 = .ok (.iload 4, 2) := by decide +kernel
theorem dX11_log_33 : decode cX11_log 33 = .ok (.iload_n 1, 1) := by decide +kernel
theorem dX11_log_34 : decode cX11_log 34 = .ok (.iload_n 2, 1) := by decide +kernel
theorem dX11_log_35 : decode cX11_log 35 = .ok (.invokevirtual 226, 3) := by decide +kernel
theorem dX11_log_38 : decode cX11_log 38 = .ok (.ifCond .eq 15, 3) := by decide +kernel
theorem dX11_log_41 : decode cX11_log 41 = .ok (.aload_n 0, 1) := by decide +kernel
theorem dX11_log_42 : decode cX11_log 42 = .ok (.getfield 102, 3) := by decide +kernel
theorem dX11_log_45 : decode cX11_log 45 = .ok (.iload 4, 2) := by decide +kernel
theorem dX11_log_47 : decode cX11_log 47 = .ok (.dup2, 1) := by decide +kernel
theorem dX11_log_48 : decode cX11_log 48 = .ok (.iaload, 1) := by decide +kernel
theorem dX11_log_49 : decode cX11_log 49 = .ok (.iconst 1, 1) := by decide +kernel
theorem dX11_log_50 : decode cX11_log 50 = .ok (.iadd, 1) := by decide +kernel
theorem dX11_log_51 : decode cX11_log 51 = .ok (.iastore, 1) := by decide +kernel
theorem dX11_log_52 : decode cX11_log 52 = .ok (.return_, 1) := by decide +kernel
theorem dX11_log_53 : decode cX11_log 53 = .ok (.iinc 4 1, 3) := by decide +kernel
theorem dX11_log_56 : decode cX11_log 56 = .ok (.goto (-46), 3) := by decide +kernel
theorem dX11_log_59 : decode cX11_log 59 = .ok (.aload_n 0, 1) := by decide +kernel
theorem dX11_log_60 : decode cX11_log 60 = .ok (.getfield 223, 3) := by decide +kernel
theorem dX11_log_63 : decode cX11_log 63 = .ok (.bipush 40, 2) := by decide +kernel
theorem dX11_log_65 : decode cX11_log 65 = .ok (.if_icmp .ge 85, 3) := by decide +kernel
theorem dX11_log_68 : decode cX11_log 68 = .ok (.iconst 0, 1) := by decide +kernel
theorem dX11_log_69 : decode cX11_log 69 = .ok (.istore 4, 2) := by decide +kernel
theorem dX11_log_71 : decode cX11_log 71 = .ok (.iload 4, 2) := by decide +kernel
theorem dX11_log_73 : decode cX11_log 73 = .ok (.iload_n 2, 1) := by decide +kernel
theorem dX11_log_74 : decode cX11_log 74 = .ok (.if_icmp .ge 36, 3) := by decide +kernel
theorem dX11_log_77 : decode cX11_log 77 = .ok (.aload_n 0, 1) := by decide +kernel
theorem dX11_log_78 : decode cX11_log 78 = .ok (.getfield 93, 3) := by decide +kernel
theorem dX11_log_81 : decode cX11_log 81 = .ok (.bipush 12, 2) := by decide +kernel
theorem dX11_log_83 : decode cX11_log 83 = .ok (.aload_n 0, 1) := by decide +kernel
theorem dX11_log_84 : decode cX11_log 84 = .ok (.getfield 223, 3) := by decide +kernel
theorem dX11_log_87 : decode cX11_log 87 = .ok (.imul, 1) := by decide +kernel
theorem dX11_log_88 : decode cX11_log 88 = .ok (.iload 4, 2) := by decide +kernel
theorem dX11_log_90 : decode cX11_log 90 = .ok (.iadd, 1) := by decide +kernel
theorem dX11_log_91 : decode cX11_log 91 = .ok (.aload_n 0, 1) := by decide +kernel
theorem dX11_log_92 : decode cX11_log 92 = .ok (.getfield 54, 3) := by decide +kernel
theorem dX11_log_95 : decode cX11_log 95 = .ok (.iload_n 1, 1) := by decide +kernel
theorem dX11_log_96 : decode cX11_log 96 = .ok (.iload 4, 2) := by decide +kernel
theorem dX11_log_98 : decode cX11_log 98 = .ok (.iadd, 1) := by decide +kernel
theorem dX11_log_99 : decode cX11_log 99 = .ok (.iaload, 1) := by decide +kernel
theorem dX11_log_100 : decode cX11_log 100 = .ok (.invokestatic 127, 3) := by decide +kernel
theorem dX11_log_103 : decode cX11_log 103 = .ok (.iastore, 1) := by decide +kernel
theorem dX11_log_104 : decode cX11_log 104 = .ok (.iinc 4 1, 3) := by decide +kernel
theorem dX11_log_107 : decode cX11_log 107 = .ok (.goto (-36), 3) := by decide +kernel
theorem dX11_log_110 : decode cX11_log 110 = .ok (.aload_n 0, 1) := by decide +kernel
theorem dX11_log_111 : decode cX11_log 111 = .ok (.getfield 96, 3) := by decide +kernel
theorem dX11_log_114 : decode cX11_log 114 = .ok (.aload_n 0, 1) := by decide +kernel
theorem dX11_log_115 : decode cX11_log 115 = .ok (.getfield 223, 3) := by decide +kernel
theorem dX11_log_118 : decode cX11_log 118 = .ok (.iload_n 2, 1) := by decide +kernel
theorem dX11_log_119 : decode cX11_log 119 = .ok (.iastore, 1) := by decide +kernel
theorem dX11_log_120 : decode cX11_log 120 = .ok (.aload_n 0, 1) := by decide +kernel
theorem dX11_log_121 : decode cX11_log 121 = .ok (.getfield 99, 3) := by decide +kernel
theorem dX11_log_124 : decode cX11_log 124 = .ok (.aload_n 0, 1) := by decide +kernel
theorem dX11_log_125 : decode cX11_log 125 = .ok (.getfield 223, 3) := by decide +kernel
theorem dX11_log_128 : decode cX11_log 128 = .ok (.iload_n 3, 1) := by decide +kernel
theorem dX11_log_129 : decode cX11_log 129 = .ok (.iastore, 1) := by decide +kernel
theorem dX11_log_130 : decode cX11_log 130 = .ok (.aload_n 0, 1) := by decide +kernel
theorem dX11_log_131 : decode cX11_log 131 = .ok (.getfield 102, 3) := by decide +kernel
theorem dX11_log_134 : decode cX11_log 134 = .ok (.aload_n 0, 1) := by decide +kernel
theorem dX11_log_135 : decode cX11_log 135 = .ok (.getfield 223, 3) := by decide +kernel
theorem dX11_log_138 : decode cX11_log 138 = .ok (.iconst 1, 1) := by decide +kernel
theorem dX11_log_139 : decode cX11_log 139 = .ok (.iastore, 1) := by decide +kernel
theorem dX11_log_140 : decode cX11_log 140 = .ok (.aload_n 0, 1) := by decide +kernel
theorem dX11_log_141 : decode cX11_log 141 = .ok (.dup, 1) := by decide +kernel
theorem dX11_log_142 : decode cX11_log 142 = .ok (.getfield 223, 3) := by decide +kernel
theorem dX11_log_145 : decode cX11_log 145 = .ok (.iconst 1, 1) := by decide +kernel
theorem dX11_log_146 : decode cX11_log 146 = .ok (.iadd, 1) := by decide +kernel
theorem dX11_log_147 : decode cX11_log 147 = .ok (.putfield 223, 3) := by decide +kernel
theorem dX11_log_150 : decode cX11_log 150 = .ok (.return_, 1) := by decide +kernel
theorem dX11_becomes_0 : decode cX11_becomes 0 = .ok (.aload_n 0, 1) := by decide +kernel
theorem dX11_becomes_1 : decode cX11_becomes 1 = .ok (.getfield 63, 3) := by decide +kernel
theorem dX11_becomes_4 : decode cX11_becomes 4 = .ok (.aload_n 0, 1) := by decide +kernel
theorem dX11_becomes_5 : decode cX11_becomes 5 = .ok (.getfield 180, 3) := by decide +kernel
theorem dX11_becomes_8 : decode cX11_becomes 8 = .ok (.iaload, 1) := by decide +kernel
theorem dX11_becomes_9 : decode cX11_becomes 9 = .ok (.istore_n 2, 1) := by decide +kernel
theorem dX11_becomes_10 : decode cX11_becomes 10 = .ok (.aload_n 0, 1) := by decide +kernel
theorem dX11_becomes_11 : decode cX11_becomes 11 = .ok (.getfield 66, 3) := by decide +kernel
theorem dX11_becomes_14 : decode cX11_becomes 14 = .ok (.aload_n 0, 1) := by decide +kernel
theorem dX11_becomes_15 : decode cX11_becomes 15 = .ok (.getfield 180, 3) := by decide +kernel
theorem dX11_becomes_18 : decode cX11_becomes 18 = .ok (.iaload, 1) := by decide +kernel
theorem dX11_becomes_19 : decode cX11_becomes 19 = .ok (.istore_n 3, 1) := by decide +kernel
theorem dX11_becomes_20 : decode cX11_becomes 20 = .ok (.aload_n 0, 1) := by decide +kernel
theorem dX11_becomes_21 : decode cX11_becomes 21 = .ok (.iload_n 2, 1) := by decide +kernel
theorem dX11_becomes_22 : decode cX11_becomes 22 = .ok (.iload_n 3, 1) := by decide +kernel
theorem dX11_becomes_23 : decode cX11_becomes 23 = .ok (.iload_n 1, 1) := by decide +kernel
theorem dX11_becomes_24 : decode cX11_becomes 24 = .ok (.invokevirtual 229, 3) := by decide +kernel
theorem dX11_becomes_27 : decode cX11_becomes 27 = .ok (.iconst 0, 1) := by decide +kernel
theorem dX11_becomes_28 : decode cX11_becomes 28 = .ok (.istore 4, 2) := by decide +kernel
theorem dX11_becomes_30 : decode cX11_becomes 30 = .ok (.aload_n 0, 1) := by decide +kernel
theorem dX11_becomes_31 : decode cX11_becomes 31 = .ok (.getfield 33, 3) := by decide +kernel
theorem dX11_becomes_34 : decode cX11_becomes 34 = .ok (.iload 4, 2) := by decide +kernel
theorem dX11_becomes_36 : decode cX11_becomes 36 = .ok (.iaload, 1) := by decide +kernel
theorem dX11_becomes_37 : decode cX11_becomes 37 = .ok (.iload_n 1, 1) := by decide +kernel
theorem dX11_becomes_38 : decode cX11_becomes 38 = .ok (.if_icmp .eq 9, 3) := by decide +kernel
theorem dX11_becomes_41 : decode cX11_becomes 41 = .ok (.iinc 4 1, 3) := by decide +kernel
theorem dX11_becomes_44 : decode cX11_becomes 44 = .ok (.goto (-14), 3) := by decide +kernel
theorem dX11_becomes_47 : decode cX11_becomes 47 = .ok (.aload_n 0, 1) := by decide +kernel
theorem dX11_becomes_48 : decode cX11_becomes 48 = .ok (.getfield 161, 3) := by decide +kernel
theorem dX11_becomes_51 : decode cX11_becomes 51 = .ok (.iload_n 2, 1) := by decide +kernel
theorem dX11_becomes_52 : decode cX11_becomes 52 = .ok (.isub, 1) := by decide +kernel
theorem dX11_becomes_53 : decode cX11_becomes 53 = .ok (.iload_n 3, 1) := by decide +kernel
theorem dX11_becomes_54 : decode cX11_becomes 54 = .ok (.isub, 1) := by decide +kernel
theorem dX11_becomes_55 : decode cX11_becomes 55 = .ok (.istore 5, 2) := by decide +kernel
theorem dX11_becomes_57 : decode cX11_becomes 57 = .ok (.iconst 0, 1) := by decide +kernel
theorem dX11_becomes_58 : decode cX11_becomes 58 = .ok (.istore 6, 2) := by decide +kernel
theorem dX11_becomes_60 : decode cX11_becomes 60 = .ok (.iload 6, 2) := by decide +kernel
theorem dX11_becomes_62 : decode cX11_becomes 62 = .ok (.iload 5, 2) := by decide +kernel
theorem dX11_becomes_64 : decode cX11_becomes 64 = .ok (.if_icmp .ge 27, 3) := by decide +kernel
theorem dX11_becomes_67 : decode cX11_becomes 67 = .ok (.aload_n 0, 1) := by decide +kernel
theorem dX11_becomes_68 : decode cX11_becomes 68 = .ok (.getfield 57, 3) := by decide +kernel
theorem dX11_becomes_71 : decode cX11_becomes 71 = .ok (.iload 6, 2) := by decide +kernel
theorem dX11_becomes_73 : decode cX11_becomes 73 = .ok (.aload_n 0, 1) := by decide +kernel
theorem dX11_becomes_74 : decode cX11_becomes 74 = .ok (.getfield 54, 3) := by decide +kernel
theorem dX11_becomes_77 : decode cX11_becomes 77 = .ok (.iload_n 2, 1) := by decide +kernel
theorem dX11_becomes_78 : decode cX11_becomes 78 = .ok (.iload_n 3, 1) := by decide +kernel
theorem dX11_becomes_79 : decode cX11_becomes 79 = .ok (.iadd, 1) := by decide +kernel
theorem dX11_becomes_80 : decode cX11_becomes 80 = .ok (.iload 6, 2) := by decide +kernel
theorem dX11_becomes_82 : decode cX11_becomes 82 = .ok (.iadd, 1) := by decide +kernel
theorem dX11_becomes_83 : decode cX11_becomes 83 = .ok (.iaload, 1) := by decide +kernel
theorem dX11_becomes_84 : decode cX11_becomes 84 = .ok (.iastore, 1) := by decide +kernel
theorem dX11_becomes_85 : decode cX11_becomes 85 = .ok (.iinc 6 1, 3) := by decide +kernel
theorem dX11_becomes_88 : decode cX11_becomes 88 = .ok (.goto (-28), 3) := by decide +kernel
theorem dX11_becomes_91 : decode cX11_becomes 91 = .ok (.iconst 0, 1) := by decide +kernel
theorem dX11_becomes_92 : decode cX11_becomes 92 = .ok (.istore 6, 2) := by decide +kernel
theorem dX11_becomes_94 : decode cX11_becomes 94 = .ok (.iload 6, 2) := by decide +kernel
theorem dX11_becomes_96 : decode cX11_becomes 96 = .ok (.aload_n 0, 1) := by decide +kernel
theorem dX11_becomes_97 : decode cX11_becomes 97 = .ok (.getfield 30, 3) := by decide +kernel
theorem dX11_becomes_100 : decode cX11_becomes 100 = .ok (.iload 4, 2) := by decide +kernel
theorem dX11_becomes_102 : decode cX11_becomes 102 = .ok (.iaload, 1) := by decide +kernel
theorem dX11_becomes_103 : decode cX11_becomes 103 = .ok (.if_icmp .ge 31, 3) := by decide +kernel
theorem dX11_becomes_106 : decode cX11_becomes 106 = .ok (.aload_n 0, 1) := by decide +kernel
theorem dX11_becomes_107 : decode cX11_becomes 107 = .ok (.getfield 54, 3) := by decide +kernel
theorem dX11_becomes_110 : decode cX11_becomes 110 = .ok (.iload_n 2, 1) := by decide +kernel
theorem dX11_becomes_111 : decode cX11_becomes 111 = .ok (.iload 6, 2) := by decide +kernel
theorem dX11_becomes_113 : decode cX11_becomes 113 = .ok (.iadd, 1) := by decide +kernel
theorem dX11_becomes_114 : decode cX11_becomes 114 = .ok (.aload_n 0, 1) := by decide +kernel
theorem dX11_becomes_115 : decode cX11_becomes 115 = .ok (.getfield 27, 3) := by decide +kernel
theorem dX11_becomes_118 : decode cX11_becomes 118 = .ok (.bipush 12, 2) := by decide +kernel
theorem dX11_becomes_120 : decode cX11_becomes 120 = .ok (.iload 4, 2) := by decide +kernel
theorem dX11_becomes_122 : decode cX11_becomes 122 = .ok (.imul, 1) := by decide +kernel
theorem dX11_becomes_123 : decode cX11_becomes 123 = .ok (.iload 6, 2) := by decide +kernel
theorem dX11_becomes_125 : decode cX11_becomes 125 = .ok (.iadd, 1) := by decide +kernel
theorem dX11_becomes_126 : decode cX11_becomes 126 = .ok (.iaload, 1) := by decide +kernel
theorem dX11_becomes_127 : decode cX11_becomes 127 = .ok (.iastore, 1) := by decide +kernel
theorem dX11_becomes_128 : decode cX11_becomes 128 = .ok (.iinc 6 1, 3) := by decide +kernel
theorem dX11_becomes_131 : decode cX11_becomes 131 = .ok (.goto (-37), 3) := by decide +kernel
theorem dX11_becomes_134 : decode cX11_becomes 134 = .ok (.aload_n 0, 1) := by decide +kernel
theorem dX11_becomes_135 : decode cX11_becomes 135 = .ok (.iload_n 2, 1) := by decide +kernel
theorem dX11_becomes_136 : decode cX11_becomes 136 = .ok (.aload_n 0, 1) := by decide +kernel
theorem dX11_becomes_137 : decode cX11_becomes 137 = .ok (.getfield 30, 3) := by decide +kernel
theorem dX11_becomes_140 : decode cX11_becomes 140 = .ok (.iload 4, 2) := by decide +kernel
theorem dX11_becomes_142 : decode cX11_becomes 142 = .ok (.iaload, 1) := by decide +kernel
theorem dX11_becomes_143 : decode cX11_becomes 143 = .ok (.iadd, 1) := by decide +kernel
theorem dX11_becomes_144 : decode cX11_becomes 144 = .ok (.iload 5, 2) := by decide +kernel
theorem dX11_becomes_146 : decode cX11_becomes 146 = .ok (.iadd, 1) := by decide +kernel
theorem dX11_becomes_147 : decode cX11_becomes 147 = .ok (.putfield 161, 3) := by decide +kernel
theorem dX11_becomes_150 : decode cX11_becomes 150 = .ok (.iconst 0, 1) := by decide +kernel
theorem dX11_becomes_151 : decode cX11_becomes 151 = .ok (.istore 6, 2) := by decide +kernel
theorem dX11_becomes_153 : decode cX11_becomes 153 = .ok (.iload 6, 2) := by decide +kernel
theorem dX11_becomes_155 : decode cX11_becomes 155 = .ok (.iload 5, 2) := by decide +kernel
theorem dX11_becomes_157 : decode cX11_becomes 157 = .ok (.if_icmp .ge 33, 3) := by decide +kernel
theorem dX11_becomes_160 : decode cX11_becomes 160 = .ok (.aload_n 0, 1) := by decide +kernel
theorem dX11_becomes_161 : decode cX11_becomes 161 = .ok (.getfield 54, 3) := by decide +kernel
theorem dX11_becomes_164 : decode cX11_becomes 164 = .ok (.iload_n 2, 1) := by decide +kernel
theorem dX11_becomes_165 : decode cX11_becomes 165 = .ok (.aload_n 0, 1) := by decide +kernel
theorem dX11_becomes_166 : decode cX11_becomes 166 = .ok (.getfield 30, 3) := by decide +kernel
theorem dX11_becomes_169 : decode cX11_becomes 169 = .ok (.iload 4, 2) := by decide +kernel
theorem dX11_becomes_171 : decode cX11_becomes 171 = .ok (.iaload, 1) := by decide +kernel
theorem dX11_becomes_172 : decode cX11_becomes 172 = .ok (.iadd, 1) := by decide +kernel
theorem dX11_becomes_173 : decode cX11_becomes 173 = .ok (.iload 6, 2) := by decide +kernel
theorem dX11_becomes_175 : decode cX11_becomes 175 = .ok (.iadd, 1) := by decide +kernel
theorem dX11_becomes_176 : decode cX11_becomes 176 = .ok (.aload_n 0, 1) := by decide +kernel
theorem dX11_becomes_177 : decode cX11_becomes 177 = .ok (.getfield 57, 3) := by decide +kernel
theorem dX11_becomes_180 : decode cX11_becomes 180 = .ok (.iload 6, 2) := by decide +kernel
theorem dX11_becomes_182 : decode cX11_becomes 182 = .ok (.iaload, 1) := by decide +kernel
theorem dX11_becomes_183 : decode cX11_becomes 183 = .ok (.iastore, 1) := by decide +kernel
theorem dX11_becomes_184 : decode cX11_becomes 184 = .ok (.iinc 6 1, 3) := by decide +kernel
theorem dX11_becomes_187 : decode cX11_becomes 187 = .ok (.goto (-34), 3) := by decide +kernel
theorem dX11_becomes_190 : decode cX11_becomes 190 = .ok (.return_, 1) := by decide +kernel
theorem dX11_fix_0 : decode cX11_fix 0 = .ok (.aload_n 0, 1) := by decide +kernel
theorem dX11_fix_1 : decode cX11_fix 1 = .ok (.iconst 0, 1) := by decide +kernel
theorem dX11_fix_2 : decode cX11_fix 2 = .ok (.putfield 1, 3) := by decide +kernel
theorem dX11_fix_5 : decode cX11_fix 5 = .ok (.aload_n 0, 1) := by decide +kernel
theorem dX11_fix_6 : decode cX11_fix 6 = .ok (.invokevirtual 220, 3) := by decide +kernel
theorem dX11_fix_9 : decode cX11_fix 9 = .ok (.aload_n 0, 1) := by decide +kernel
theorem dX11_fix_10 : decode cX11_fix 10 = .ok (.getfield 183, 3) := by decide +kernel
theorem dX11_fix_13 : decode cX11_fix 13 = .ok (.iconst 3, 1) := by decide +kernel
theorem dX11_fix_14 : decode cX11_fix 14 = .ok (.if_icmp .eq 6, 3) := by decide +kernel
theorem dX11_fix_17 : decode cX11_fix 17 = .ok (.bipush (-3), 2) := by decide +kernel
theorem dX11_fix_19 : decode cX11_fix 19 = .ok (.ireturn, 1) := by decide +kernel
theorem dX11_fix_20 : decode cX11_fix 20 = .ok (.aload_n 0, 1) := by decide +kernel
theorem dX11_fix_21 : decode cX11_fix 21 = .ok (.getfield 211, 3) := by decide +kernel
theorem dX11_fix_24 : decode cX11_fix 24 = .ok (.ifCond .ne 5, 3) := by decide +kernel
theorem dX11_fix_27 : decode cX11_fix 27 = .ok (.iconst 0, 1) := by decide +kernel
theorem dX11_fix_28 : decode cX11_fix 28 = .ok (.ireturn, 1) := by decide +kernel
theorem dX11_fix_29 : decode cX11_fix 29 = .ok (.aload_n 0, 1) := by decide +kernel
theorem dX11_fix_30 : decode cX11_fix 30 = .ok (.getfield 72, 3) := by decide +kernel
theorem dX11_fix_33 : decode cX11_fix 33 = .ok (.iconst 0, 1) := by decide +kernel
theorem dX11_fix_34 : decode cX11_fix 34 = .ok (.iaload, 1) := by decide +kernel
theorem dX11_fix_35 : decode cX11_fix 35 = .ok (.aload_n 0, 1) := by decide +kernel
theorem dX11_fix_36 : decode cX11_fix 36 = .ok (.getfield 180, 3) := by decide +kernel
theorem dX11_fix_39 : decode cX11_fix 39 = .ok (.if_icmp .ne 12, 3) := by decide +kernel
theorem dX11_fix_42 : decode cX11_fix 42 = .ok (.aload_n 0, 1) := by decide +kernel
theorem dX11_fix_43 : decode cX11_fix 43 = .ok (.getfield 84, 3) := by decide +kernel
theorem dX11_fix_46 : decode cX11_fix 46 = .ok (.iconst 0, 1) := by decide +kernel
theorem dX11_fix_47 : decode cX11_fix 47 = .ok (.iaload, 1) := by decide +kernel
theorem dX11_fix_48 : decode cX11_fix 48 = .ok (.goto 9, 3) := by decide +kernel
theorem dX11_fix_51 : decode cX11_fix 51 = .ok (.aload_n 0, 1) := by decide +kernel
theorem dX11_fix_52 : decode cX11_fix 52 = .ok (.getfield 75, 3) := by decide +kernel
theorem dX11_fix_55 : decode cX11_fix 55 = .ok (.iconst 0, 1) := by decide +kernel
theorem dX11_fix_56 : decode cX11_fix 56 = .ok (.iaload, 1) := by decide +kernel
theorem dX11_fix_57 : decode cX11_fix 57 = .ok (.istore_n 1, 1) := by decide +kernel
theorem dX11_fix_58 : decode cX11_fix 58 = .ok (.aload_n 0, 1) := by decide +kernel
theorem dX11_fix_59 : decode cX11_fix 59 = .ok (.getfield 45, 3) := by decide +kernel
theorem dX11_fix_62 : decode cX11_fix 62 = .ok (.bipush 6, 2) := by decide +kernel
theorem dX11_fix_64 : decode cX11_fix 64 = .ok (.iaload, 1) := by decide +kernel
theorem dX11_fix_65 : decode cX11_fix 65 = .ok (.iconst 1, 1) := by decide +kernel
theorem dX11_fix_66 : decode cX11_fix 66 = .ok (.if_icmp .ne 48, 3) := by decide +kernel
theorem dX11_fix_69 : decode cX11_fix 69 = .ok (.aload_n 0, 1) := by decide +kernel
theorem dX11_fix_70 : decode cX11_fix 70 = .ok (.getfield 211, 3) := by decide +kernel
theorem dX11_fix_73 : decode cX11_fix 73 = .ok (.iconst 1, 1) := by decide +kernel
theorem dX11_fix_74 : decode cX11_fix 74 = .ok (.if_icmp .eq 18, 3) := by decide +kernel
theorem dX11_fix_77 : decode cX11_fix 77 = .ok (.aload_n 0, 1) := by decide +kernel
theorem dX11_fix_78 : decode cX11_fix 78 = .ok (.getfield 87, 3) := by decide +kernel
theorem dX11_fix_81 : decode cX11_fix 81 = .ok (.iconst 0, 1) := by decide +kernel
theorem dX11_fix_82 : decode cX11_fix 82 = .ok (.iaload, 1) := by decide +kernel
theorem dX11_fix_83 : decode cX11_fix 83 = .ok (.aload_n 0, 1) := by decide +kernel
theorem dX11_fix_84 : decode cX11_fix 84 = .ok (.getfield 87, 3) := by decide +kernel
theorem dX11_fix_87 : decode cX11_fix 87 = .ok (.iconst 1, 1) := by decide +kernel
theorem dX11_fix_88 : decode cX11_fix 88 = .ok (.iaload, 1) := by decide +kernel
theorem dX11_fix_89 : decode cX11_fix 89 = .ok (.if_icmp .ge 25, 3) := by decide +kernel
theorem dX11_fix_92 : decode cX11_fix 92 = .ok (.aload_n 0, 1) := by decide +kernel
theorem dX11_fix_93 : decode cX11_fix 93 = .ok (.getfield 90, 3) := by decide +kernel
theorem dX11_fix_96 : decode cX11_fix 96 = .ok (.iconst 0, 1) := by decide +kernel
theorem dX11_fix_97 : decode cX11_fix 97 = .ok (.baload, 1) := by decide +kernel
theorem dX11_fix_98 : decode cX11_fix 98 = .ok (.ifCond .eq 16, 3) := by decide +kernel
theorem dX11_fix_101 : decode cX11_fix 101 = .ok (.aload_n 0, 1) := by decide +kernel
theorem dX11_fix_102 : decode cX11_fix 102 = .ok (.getfield 21, 3) := by decide +kernel
theorem dX11_fix_105 : decode cX11_fix 105 = .ok (.iload_n 1, 1) := by decide +kernel
theorem dX11_fix_106 : decode cX11_fix 106 = .ok (.baload, 1) := by decide +kernel
theorem dX11_fix_107 : decode cX11_fix 107 = .ok (.ifCond .ne 7, 3) := by decide +kernel
theorem dX11_fix_110 : decode cX11_fix 110 = .ok (.iconst 1, 1) := by decide +kernel
theorem dX11_fix_111 : decode cX11_fix 111 = .ok (.goto 4, 3) := by decide +kernel
theorem dX11_fix_114 : decode cX11_fix 114 = .ok (.iconst 0, 1) := by decide +kernel
theorem dX11_fix_115 : decode cX11_fix 115 = .ok (.istore_n 2, 1) := by decide +kernel
theorem dX11_fix_116 : decode cX11_fix 116 = .ok (.iload_n 2, 1) := by decide +kernel
theorem dX11_fix_117 : decode cX11_fix 117 = .ok (.ifCond .ne 5, 3) := by decide +kernel
theorem dX11_fix_120 : decode cX11_fix 120 = .ok (.iconst 2, 1) := by decide +kernel
theorem dX11_fix_121 : decode cX11_fix 121 = .ok (.ireturn, 1) := by decide +kernel
theorem dX11_fix_122 : decode cX11_fix 122 = .ok (.aload_n 0, 1) := by decide +kernel
theorem dX11_fix_123 : decode cX11_fix 123 = .ok (.aload_n 0, 1) := by decide +kernel
theorem dX11_fix_124 : decode cX11_fix 124 = .ok (.getfield 180, 3) := by decide +kernel
theorem dX11_fix_127 : decode cX11_fix 127 = .ok (.putfield 60, 3) := by decide +kernel
theorem dX11_fix_130 : decode cX11_fix 130 = .ok (.aload_n 0, 1) := by decide +kernel
theorem dX11_fix_131 : decode cX11_fix 131 = .ok (.aload_n 0, 1) := by decide +kernel
theorem dX11_fix_132 : decode cX11_fix 132 = .ok (.getfield 84, 3) := by decide +kernel
theorem dX11_fix_135 : decode cX11_fix 135 = .ok (.iconst 0, 1) := by decide +kernel
theorem dX11_fix_136 : decode cX11_fix 136 = .ok (.iaload, 1) := by decide +kernel
theorem dX11_fix_137 : decode cX11_fix 137 = .ok (.invokevirtual 232, 3) := by decide +kernel
theorem dX11_fix_140 : decode cX11_fix 140 = .ok (.iconst 1, 1) := by decide +kernel
theorem dX11_fix_141 : decode cX11_fix 141 = .ok (.ireturn, 1) := by decide +kernel
theorem dX11_choose_0 : decode cX11_choose 0 = .ok (.aload_n 0, 1) := by decide +kernel
theorem dX11_choose_1 : decode cX11_choose 1 = .ok (.iconst 0, 1) := by decide +kernel
theorem dX11_choose_2 : decode cX11_choose 2 = .ok (.putfield 1, 3) := by decide +kernel
theorem dX11_choose_5 : decode cX11_choose 5 = .ok (.aload_n 0, 1) := by decide +kernel
theorem dX11_choose_6 : decode cX11_choose 6 = .ok (.invokevirtual 220, 3) := by decide +kernel
theorem dX11_choose_9 : decode cX11_choose 9 = .ok (.iload_n 1, 1) := by decide +kernel
theorem dX11_choose_10 : decode cX11_choose 10 = .ok (.iconst 0, 1) := by decide +kernel
theorem dX11_choose_11 : decode cX11_choose 11 = .ok (.aload_n 0, 1) := by decide +kernel
theorem dX11_choose_12 : decode cX11_choose 12 = .ok (.getfield 211, 3) := by decide +kernel
theorem dX11_choose_15 : decode cX11_choose 15 = .ok (.iconst 1, 1) := by decide +kernel
theorem dX11_choose_16 : decode cX11_choose 16 = .ok (.isub, 1) := by decide +kernel
theorem dX11_choose_17 : decode cX11_choose 17 = .ok (.invokestatic 120, 3) := by decide +kernel
theorem dX11_choose_20 : decode cX11_choose 20 = .ok (.ifCond .ne 6, 3) := by decide +kernel
theorem dX11_choose_23 : decode cX11_choose 23 = .ok (.bipush (-2), 2) := by decide +kernel
theorem dX11_choose_25 : decode cX11_choose 25 = .ok (.ireturn, 1) := by decide +kernel
theorem dX11_choose_26 : decode cX11_choose 26 = .ok (.aload_n 0, 1) := by decide +kernel
theorem dX11_choose_27 : decode cX11_choose 27 = .ok (.aload_n 0, 1) := by decide +kernel
theorem dX11_choose_28 : decode cX11_choose 28 = .ok (.getfield 84, 3) := by decide +kernel
theorem dX11_choose_31 : decode cX11_choose 31 = .ok (.iload_n 1, 1) := by decide +kernel
theorem dX11_choose_32 : decode cX11_choose 32 = .ok (.iaload, 1) := by decide +kernel
theorem dX11_choose_33 : decode cX11_choose 33 = .ok (.invokevirtual 232, 3) := by decide +kernel
theorem dX11_choose_36 : decode cX11_choose 36 = .ok (.aload_n 0, 1) := by decide +kernel
theorem dX11_choose_37 : decode cX11_choose 37 = .ok (.iconst (-1), 1) := by decide +kernel
theorem dX11_choose_38 : decode cX11_choose 38 = .ok (.putfield 60, 3) := by decide +kernel
theorem dX11_choose_41 : decode cX11_choose 41 = .ok (.aload_n 0, 1) := by decide +kernel
theorem dX11_choose_42 : decode cX11_choose 42 = .ok (.invokevirtual 190, 3) := by decide +kernel
theorem dX11_choose_45 : decode cX11_choose 45 = .ok (.aload_n 0, 1) := by decide +kernel
theorem dX11_choose_46 : decode cX11_choose 46 = .ok (.getfield 183, 3) := by decide +kernel
theorem dX11_choose_49 : decode cX11_choose 49 = .ok (.ireturn, 1) := by decide +kernel
theorem dX11_pairs_0 : decode cX11_pairs 0 = .ok (.aload_n 0, 1) := by decide +kernel
theorem dX11_pairs_1 : decode cX11_pairs 1 = .ok (.getfield 42, 3) := by decide +kernel
theorem dX11_pairs_4 : decode cX11_pairs 4 = .ok (.iload_n 1, 1) := by decide +kernel
theorem dX11_pairs_5 : decode cX11_pairs 5 = .ok (.iaload, 1) := by decide +kernel
theorem dX11_pairs_6 : decode cX11_pairs 6 = .ok (.istore_n 2, 1) := by decide +kernel
theorem dX11_pairs_7 : decode cX11_pairs 7 = .ok (.iload_n 2, 1) := by decide +kernel
theorem dX11_pairs_8 : decode cX11_pairs 8 = .ok (.ifCond .lt 163, 3) := by decide +kernel
theorem dX11_pairs_11 : decode cX11_pairs 11 = .ok (.aload_n 0, 1) := by decide +kernel
theorem dX11_pairs_12 : decode cX11_pairs 12 = .ok (.getfield 171, 3) := by decide +kernel
theorem dX11_pairs_15 : decode cX11_pairs 15 = .ok (.istore_n 3, 1) := by decide +kernel
theorem dX11_pairs_16 : decode cX11_pairs 16 = .ok (.iload_n 3, 1) := by decide +kernel
theorem dX11_pairs_17 : decode cX11_pairs 17 = .ok (.iconst 1, 1) := by decide +kernel
theorem dX11_pairs_18 : decode cX11_pairs 18 = .ok (.if_icmp .lt 147, 3) := by decide +kernel
theorem dX11_pairs_21 : decode cX11_pairs 21 = .ok (.iconst 0, 1) := by decide +kernel
theorem dX11_pairs_22 : decode cX11_pairs 22 = .ok (.istore 4, 2) := by decide +kernel
theorem dX11_pairs_24 : decode cX11_pairs 24 = .ok (.iload_n 2, 1) := by decide +kernel
theorem dX11_pairs_25 : decode cX11_pairs 25 = .ok (.aload_n 0, 1) := by decide +kernel
theorem dX11_pairs_26 : decode cX11_pairs 26 = .ok (.getfield 42, 3) := by decide +kernel
theorem dX11_pairs_29 : decode cX11_pairs 29 = .ok (.iload_n 1, 1) := by decide +kernel
theorem dX11_pairs_30 : decode cX11_pairs 30 = .ok (.iaload, 1) := by decide +kernel
theorem dX11_pairs_31 : decode cX11_pairs 31 = .ok (.if_icmp .ge 115, 3) := by decide +kernel
theorem dX11_pairs_34 : decode cX11_pairs 34 = .ok (.iload_n 3, 1) := by decide +kernel
theorem dX11_pairs_35 : decode cX11_pairs 35 = .ok (.aload_n 0, 1) := by decide +kernel
theorem dX11_pairs_36 : decode cX11_pairs 36 = .ok (.getfield 171, 3) := by decide +kernel
theorem dX11_pairs_39 : decode cX11_pairs 39 = .ok (.if_icmp .ge 107, 3) := by decide +kernel
theorem dX11_pairs_42 : decode cX11_pairs 42 = .ok (.aload_n 0, 1) := by decide +kernel
theorem dX11_pairs_43 : decode cX11_pairs 43 = .ok (.getfield 105, 3) := by decide +kernel
theorem dX11_pairs_46 : decode cX11_pairs 46 = .ok (.bipush 12, 2) := by decide +kernel
theorem dX11_pairs_48 : decode cX11_pairs 48 = .ok (.iload_n 2, 1) := by decide +kernel
theorem dX11_pairs_49 : decode cX11_pairs 49 = .ok (.iconst 1, 1) := by decide +kernel
theorem dX11_pairs_50 : decode cX11_pairs 50 = .ok (.iadd, 1) := by decide +kernel
theorem dX11_pairs_51 : decode cX11_pairs 51 = .ok (.imul, 1) := by decide +kernel
theorem dX11_pairs_52 : decode cX11_pairs 52 = .ok (.iload_n 3, 1) := by decide +kernel
theorem dX11_pairs_53 : decode cX11_pairs 53 = .ok (.iadd, 1) := by decide +kernel
theorem dX11_pairs_54 : decode cX11_pairs 54 = .ok (.iaload, 1) := by decide +kernel
theorem dX11_pairs_55 : decode cX11_pairs 55 = .ok (.istore 5, 2) := by decide +kernel
theorem dX11_pairs_57 : decode cX11_pairs 57 = .ok (.aload_n 0, 1) := by decide +kernel
theorem dX11_pairs_58 : decode cX11_pairs 58 = .ok (.getfield 105, 3) := by decide +kernel
theorem dX11_pairs_61 : decode cX11_pairs 61 = .ok (.bipush 12, 2) := by decide +kernel
theorem dX11_pairs_63 : decode cX11_pairs 63 = .ok (.iload_n 2, 1) := by decide +kernel
theorem dX11_pairs_64 : decode cX11_pairs 64 = .ok (.imul, 1) := by decide +kernel
theorem dX11_pairs_65 : decode cX11_pairs 65 = .ok (.iload_n 3, 1) := by decide +kernel
theorem dX11_pairs_66 : decode cX11_pairs 66 = .ok (.iadd, 1) := by decide +kernel
theorem dX11_pairs_67 : decode cX11_pairs 67 = .ok (.iconst 1, 1) := by decide +kernel
theorem dX11_pairs_68 : decode cX11_pairs 68 = .ok (.iadd, 1) := by decide +kernel
theorem dX11_pairs_69 : decode cX11_pairs 69 = .ok (.iaload, 1) := by decide +kernel
theorem dX11_pairs_70 : decode cX11_pairs 70 = .ok (.istore 6, 2) := by decide +kernel
theorem dX11_pairs_72 : decode cX11_pairs 72 = .ok (.iload 5, 2) := by decide +kernel
theorem dX11_pairs_74 : decode cX11_pairs 74 = .ok (.iload 6, 2) := by decide +kernel
theorem dX11_pairs_76 : decode cX11_pairs 76 = .ok (.if_icmp .le 8, 3) := by decide +kernel
theorem dX11_pairs_79 : decode cX11_pairs 79 = .ok (.iload 5, 2) := by decide +kernel
theorem dX11_pairs_81 : decode cX11_pairs 81 = .ok (.goto 5, 3) := by decide +kernel
theorem dX11_pairs_84 : decode cX11_pairs 84 = .ok (.iload 6, 2) := by decide +kernel
theorem dX11_pairs_86 : decode cX11_pairs 86 = .ok (.istore 4, 2) := by decide +kernel
theorem dX11_pairs_88 : decode cX11_pairs 88 = .ok (.iconst 1, 1) := by decide +kernel
theorem dX11_pairs_89 : decode cX11_pairs 89 = .ok (.aload_n 0, 1) := by decide +kernel
theorem dX11_pairs_90 : decode cX11_pairs 90 = .ok (.getfield 105, 3) := by decide +kernel
theorem dX11_pairs_93 : decode cX11_pairs 93 = .ok (.bipush 12, 2) := by decide +kernel
theorem dX11_pairs_95 : decode cX11_pairs 95 = .ok (.iload_n 2, 1) := by decide +kernel
theorem dX11_pairs_96 : decode cX11_pairs 96 = .ok (.iconst 1, 1) := by decide +kernel
theorem dX11_pairs_97 : decode cX11_pairs 97 = .ok (.iadd, 1) := by decide +kernel
theorem dX11_pairs_98 : decode cX11_pairs 98 = .ok (.imul, 1) := by decide +kernel
theorem dX11_pairs_99 : decode cX11_pairs 99 = .ok (.iload_n 3, 1) := by decide +kernel
theorem dX11_pairs_100 : decode cX11_pairs 100 = .ok (.iadd, 1) := by decide +kernel
theorem dX11_pairs_101 : decode cX11_pairs 101 = .ok (.iconst 1, 1) := by decide +kernel
theorem dX11_pairs_102 : decode cX11_pairs 102 = .ok (.iadd, 1) := by decide +kernel
theorem dX11_pairs_103 : decode cX11_pairs 103 = .ok (.iaload, 1) := by decide +kernel
theorem dX11_pairs_104 : decode cX11_pairs 104 = .ok (.iadd, 1) := by decide +kernel
theorem dX11_pairs_105 : decode cX11_pairs 105 = .ok (.istore 7, 2) := by decide +kernel
theorem dX11_pairs_107 : decode cX11_pairs 107 = .ok (.aload_n 0, 1) := by decide +kernel
theorem dX11_pairs_108 : decode cX11_pairs 108 = .ok (.aload_n 0, 1) := by decide +kernel
theorem dX11_pairs_109 : decode cX11_pairs 109 = .ok (.getfield 75, 3) := by decide +kernel
theorem dX11_pairs_112 : decode cX11_pairs 112 = .ok (.iload_n 3, 1) := by decide +kernel
theorem dX11_pairs_113 : decode cX11_pairs 113 = .ok (.iaload, 1) := by decide +kernel
theorem dX11_pairs_114 : decode cX11_pairs 114 = .ok (.aload_n 0, 1) := by decide +kernel
theorem dX11_pairs_115 : decode cX11_pairs 115 = .ok (.getfield 39, 3) := by decide +kernel
theorem dX11_pairs_118 : decode cX11_pairs 118 = .ok (.iconst 4, 1) := by decide +kernel
theorem dX11_pairs_119 : decode cX11_pairs 119 = .ok (.iload_n 1, 1) := by decide +kernel
theorem dX11_pairs_120 : decode cX11_pairs 120 = .ok (.imul, 1) := by decide +kernel
theorem dX11_pairs_121 : decode cX11_pairs 121 = .ok (.iload_n 2, 1) := by decide +kernel
theorem dX11_pairs_122 : decode cX11_pairs 122 = .ok (.iadd, 1) := by decide +kernel
theorem dX11_pairs_123 : decode cX11_pairs 123 = .ok (.iaload, 1) := by decide +kernel
theorem dX11_pairs_124 : decode cX11_pairs 124 = .ok (.invokevirtual 177, 3) := by decide +kernel
theorem dX11_pairs_127 : decode cX11_pairs 127 = .ok (.ifCond .eq 15, 3) := by decide +kernel
theorem dX11_pairs_130 : decode cX11_pairs 130 = .ok (.iload 7, 2) := by decide +kernel
theorem dX11_pairs_132 : decode cX11_pairs 132 = .ok (.iload 4, 2) := by decide +kernel
theorem dX11_pairs_134 : decode cX11_pairs 134 = .ok (.if_icmp .le 8, 3) := by decide +kernel
theorem dX11_pairs_137 : decode cX11_pairs 137 = .ok (.iload 7, 2) := by decide +kernel
theorem dX11_pairs_139 : decode cX11_pairs 139 = .ok (.goto 5, 3) := by decide +kernel
theorem dX11_pairs_142 : decode cX11_pairs 142 = .ok (.iload 4, 2) := by decide +kernel
theorem dX11_pairs_144 : decode cX11_pairs 144 = .ok (.istore 4, 2) := by decide +kernel
theorem dX11_pairs_146 : decode cX11_pairs 146 = .ok (.aload_n 0, 1) := by decide +kernel
theorem dX11_pairs_147 : decode cX11_pairs 147 = .ok (.getfield 105, 3) := by decide +kernel
theorem dX11_pairs_150 : decode cX11_pairs 150 = .ok (.bipush 12, 2) := by decide +kernel
theorem dX11_pairs_152 : decode cX11_pairs 152 = .ok (.iload_n 2, 1) := by decide +kernel
theorem dX11_pairs_153 : decode cX11_pairs 153 = .ok (.imul, 1) := by decide +kernel
theorem dX11_pairs_154 : decode cX11_pairs 154 = .ok (.iload_n 3, 1) := by decide +kernel
theorem dX11_pairs_155 : decode cX11_pairs 155 = .ok (.iadd, 1) := by decide +kernel
theorem dX11_pairs_156 : decode cX11_pairs 156 = .ok (.iload 4, 2) := by decide +kernel
theorem dX11_pairs_158 : decode cX11_pairs 158 = .ok (.iastore, 1) := by decide +kernel
theorem dX11_pairs_159 : decode cX11_pairs 159 = .ok (.iinc 3 (-1), 3) := by decide +kernel
theorem dX11_pairs_162 : decode cX11_pairs 162 = .ok (.goto (-146), 3) := by decide +kernel
theorem dX11_pairs_165 : decode cX11_pairs 165 = .ok (.iinc 2 (-1), 3) := by decide +kernel
theorem dX11_pairs_168 : decode cX11_pairs 168 = .ok (.goto (-161), 3) := by decide +kernel
theorem dX11_pairs_171 : decode cX11_pairs 171 = .ok (.aload_n 0, 1) := by decide +kernel
theorem dX11_pairs_172 : decode cX11_pairs 172 = .ok (.getfield 105, 3) := by decide +kernel
theorem dX11_pairs_175 : decode cX11_pairs 175 = .ok (.iconst 1, 1) := by decide +kernel
theorem dX11_pairs_176 : decode cX11_pairs 176 = .ok (.iaload, 1) := by decide +kernel
theorem dX11_pairs_177 : decode cX11_pairs 177 = .ok (.ireturn, 1) := by decide +kernel
theorem dX11_compare_0 : decode cX11_compare 0 = .ok (.aload_n 0, 1) := by decide +kernel
theorem dX11_compare_1 : decode cX11_compare 1 = .ok (.invokevirtual 190, 3) := by decide +kernel
theorem dX11_compare_4 : decode cX11_compare 4 = .ok (.aload_n 0, 1) := by decide +kernel
theorem dX11_compare_5 : decode cX11_compare 5 = .ok (.iconst (-1), 1) := by decide +kernel
theorem dX11_compare_6 : decode cX11_compare 6 = .ok (.putfield 236, 3) := by decide +kernel
theorem dX11_compare_9 : decode cX11_compare 9 = .ok (.aload_n 0, 1) := by decide +kernel
theorem dX11_compare_10 : decode cX11_compare 10 = .ok (.iconst 0, 1) := by decide +kernel
theorem dX11_compare_11 : decode cX11_compare 11 = .ok (.putfield 239, 3) := by decide +kernel
theorem dX11_compare_14 : decode cX11_compare 14 = .ok (.aload_n 0, 1) := by decide +kernel
theorem dX11_compare_15 : decode cX11_compare 15 = .ok (.iconst 0, 1) := by decide +kernel
theorem dX11_compare_16 : decode cX11_compare 16 = .ok (.putfield 242, 3) := by decide +kernel
theorem dX11_compare_19 : decode cX11_compare 19 = .ok (.aload_n 0, 1) := by decide +kernel
theorem dX11_compare_20 : decode cX11_compare 20 = .ok (.getfield 183, 3) := by decide +kernel
theorem dX11_compare_23 : decode cX11_compare 23 = .ok (.ifCond .eq 13, 3) := by decide +kernel
theorem dX11_compare_26 : decode cX11_compare 26 = .ok (.aload_n 0, 1) := by decide +kernel
theorem dX11_compare_27 : decode cX11_compare 27 = .ok (.getfield 183, 3) := by decide +kernel
theorem dX11_compare_30 : decode cX11_compare 30 = .ok (.bipush 6, 2) := by decide +kernel
theorem dX11_compare_32 : decode cX11_compare 32 = .ok (.if_icmp .eq 4, 3) := by decide +kernel
theorem dX11_compare_35 : decode cX11_compare 35 = .ok (.return_, 1) := by decide +kernel
theorem dX11_compare_36 : decode cX11_compare 36 = .ok (.iconst 0, 1) := by decide +kernel
theorem dX11_compare_37 : decode cX11_compare 37 = .ok (.istore_n 1, 1) := by decide +kernel
theorem dX11_compare_38 : decode cX11_compare 38 = .ok (.iconst 0, 1) := by decide +kernel
theorem dX11_compare_39 : decode cX11_compare 39 = .ok (.istore_n 2, 1) := by decide +kernel
theorem dX11_compare_40 : decode cX11_compare 40 = .ok (.iload_n 2, 1) := by decide +kernel
theorem dX11_compare_41 : decode cX11_compare 41 = .ok (.aload_n 0, 1) := by decide +kernel
theorem dX11_compare_42 : decode cX11_compare 42 = .ok (.getfield 151, 3) := by decide +kernel
theorem dX11_compare_45 : decode cX11_compare 45 = .ok (.if_icmp .ge 66, 3) := by decide +kernel
theorem dX11_compare_48 : decode cX11_compare 48 = .ok (.aload_n 0, 1) := by decide +kernel
theorem dX11_compare_49 : decode cX11_compare 49 = .ok (.getfield 36, 3) := by decide +kernel
theorem dX11_compare_52 : decode cX11_compare 52 = .ok (.iload_n 2, 1) := by decide +kernel
theorem dX11_compare_53 : decode cX11_compare 53 = .ok (.iaload, 1) := by decide +kernel
theorem dX11_compare_54 : decode cX11_compare 54 = .ok (.aload_n 0, 1) := by decide +kernel
theorem dX11_compare_55 : decode cX11_compare 55 = .ok (.getfield 75, 3) := by decide +kernel
theorem dX11_compare_58 : decode cX11_compare 58 = .ok (.iconst 0, 1) := by decide +kernel
theorem dX11_compare_59 : decode cX11_compare 59 = .ok (.iaload, 1) := by decide +kernel
theorem dX11_compare_60 : decode cX11_compare 60 = .ok (.if_icmp .ne 45, 3) := by decide +kernel
theorem dX11_compare_63 : decode cX11_compare 63 = .ok (.aload_n 0, 1) := by decide +kernel
theorem dX11_compare_64 : decode cX11_compare 64 = .ok (.getfield 42, 3) := by decide +kernel
theorem dX11_compare_67 : decode cX11_compare 67 = .ok (.iload_n 2, 1) := by decide +kernel
theorem dX11_compare_68 : decode cX11_compare 68 = .ok (.iaload, 1) := by decide +kernel
theorem dX11_compare_69 : decode cX11_compare 69 = .ok (.aload_n 0, 1) := by decide +kernel
theorem dX11_compare_70 : decode cX11_compare 70 = .ok (.getfield 171, 3) := by decide +kernel
theorem dX11_compare_73 : decode cX11_compare 73 = .ok (.iadd, 1) := by decide +kernel
theorem dX11_compare_74 : decode cX11_compare 74 = .ok (.iconst 1, 1) := by decide +kernel
theorem dX11_compare_75 : decode cX11_compare 75 = .ok (.isub, 1) := by decide +kernel
theorem dX11_compare_76 : decode cX11_compare 76 = .ok (.iconst 2, 1) := by decide +kernel
theorem dX11_compare_77 : decode cX11_compare 77 = .ok (.aload_n 0, 1) := by decide +kernel
theorem dX11_compare_78 : decode cX11_compare 78 = .ok (.iload_n 2, 1) := by decide +kernel
theorem dX11_compare_79 : decode cX11_compare 79 = .ok (.invokevirtual 245, 3) := by decide +kernel
theorem dX11_compare_82 : decode cX11_compare 82 = .ok (.imul, 1) := by decide +kernel
theorem dX11_compare_83 : decode cX11_compare 83 = .ok (.isub, 1) := by decide +kernel
theorem dX11_compare_84 : decode cX11_compare 84 = .ok (.istore_n 3, 1) := by decide +kernel
theorem dX11_compare_85 : decode cX11_compare 85 = .ok (.aload_n 0, 1) := by decide +kernel
theorem dX11_compare_86 : decode cX11_compare 86 = .ok (.getfield 236, 3) := by decide +kernel
theorem dX11_compare_89 : decode cX11_compare 89 = .ok (.iconst (-1), 1) := by decide +kernel
theorem dX11_compare_90 : decode cX11_compare 90 = .ok (.if_icmp .eq 8, 3) := by decide +kernel
theorem dX11_compare_93 : decode cX11_compare 93 = .ok (.iload_n 3, 1) := by decide +kernel
theorem dX11_compare_94 : decode cX11_compare 94 = .ok (.iload_n 1, 1) := by decide +kernel
theorem dX11_compare_95 : decode cX11_compare 95 = .ok (.if_icmp .ge 10, 3) := by decide +kernel
theorem dX11_compare_98 : decode cX11_compare 98 = .ok (.aload_n 0, 1) := by decide +kernel
theorem dX11_compare_99 : decode cX11_compare 99 = .ok (.iload_n 2, 1) := by decide +kernel
theorem dX11_compare_100 : decode cX11_compare 100 = .ok (.putfield 236, 3) := by decide +kernel
theorem dX11_compare_103 : decode cX11_compare 103 = .ok (.iload_n 3, 1) := by decide +kernel
theorem dX11_compare_104 : decode cX11_compare 104 = .ok (.istore_n 1, 1) := by decide +kernel
theorem dX11_compare_105 : decode cX11_compare 105 = .ok (.iinc 2 1, 3) := by decide +kernel
theorem dX11_compare_108 : decode cX11_compare 108 = .ok (.goto (-68), 3) := by decide +kernel
theorem dX11_compare_111 : decode cX11_compare 111 = .ok (.aload_n 0, 1) := by decide +kernel
theorem dX11_compare_112 : decode cX11_compare 112 = .ok (.getfield 236, 3) := by decide +kernel
theorem dX11_compare_115 : decode cX11_compare 115 = .ok (.iconst (-1), 1) := by decide +kernel
theorem dX11_compare_116 : decode cX11_compare 116 = .ok (.if_icmp .ne 4, 3) := by decide +kernel
theorem dX11_compare_119 : decode cX11_compare 119 = .ok (.return_, 1) := by decide +kernel
theorem dX11_compare_120 : decode cX11_compare 120 = .ok (.aload_n 0, 1) := by decide +kernel
theorem dX11_compare_121 : decode cX11_compare 121 = .ok (.getfield 236, 3) := by decide +kernel
theorem dX11_compare_124 : decode cX11_compare 124 = .ok (.istore_n 2, 1) := by decide +kernel
theorem dX11_compare_125 : decode cX11_compare 125 = .ok (.aload_n 0, 1) := by decide +kernel
theorem dX11_compare_126 : decode cX11_compare 126 = .ok (.iload_n 2, 1) := by decide +kernel
theorem dX11_compare_127 : decode cX11_compare 127 = .ok (.invokevirtual 245, 3) := by decide +kernel
theorem dX11_compare_130 : decode cX11_compare 130 = .ok (.istore_n 3, 1) := by decide +kernel
theorem dX11_compare_131 : decode cX11_compare 131 = .ok (.aload_n 0, 1) := by decide +kernel
theorem dX11_compare_132 : decode cX11_compare 132 = .ok (.aload_n 0, 1) := by decide +kernel
theorem dX11_compare_133 : decode cX11_compare 133 = .ok (.getfield 171, 3) := by decide +kernel
theorem dX11_compare_136 : decode cX11_compare 136 = .ok (.iconst 1, 1) := by decide +kernel
theorem dX11_compare_137 : decode cX11_compare 137 = .ok (.isub, 1) := by decide +kernel
theorem dX11_compare_138 : decode cX11_compare 138 = .ok (.iload_n 3, 1) := by decide +kernel
theorem dX11_compare_139 : decode cX11_compare 139 = .ok (.isub, 1) := by decide +kernel
theorem dX11_compare_140 : decode cX11_compare 140 = .ok (.putfield 242, 3) := by decide +kernel
theorem dX11_compare_143 : decode cX11_compare 143 = .ok (.iconst 1, 1) := by decide +kernel
theorem dX11_compare_144 : decode cX11_compare 144 = .ok (.istore 4, 2) := by decide +kernel
theorem dX11_compare_146 : decode cX11_compare 146 = .ok (.iconst 0, 1) := by decide +kernel
theorem dX11_compare_147 : decode cX11_compare 147 = .ok (.istore 5, 2) := by decide +kernel
theorem dX11_compare_149 : decode cX11_compare 149 = .ok (.iload 5, 2) := by decide +kernel
theorem dX11_compare_151 : decode cX11_compare 151 = .ok (.aload_n 0, 1) := by decide +kernel
theorem dX11_compare_152 : decode cX11_compare 152 = .ok (.getfield 42, 3) := by decide +kernel
theorem dX11_compare_155 : decode cX11_compare 155 = .ok (.iload_n 2, 1) := by decide +kernel
theorem dX11_compare_156 : decode cX11_compare 156 = .ok (.iaload, 1) := by decide +kernel
theorem dX11_compare_157 : decode cX11_compare 157 = .ok (.if_icmp .ge 145, 3) := by decide +kernel
theorem dX11_compare_160 : decode cX11_compare 160 = .ok (.iconst (-1), 1) := by decide +kernel
theorem dX11_compare_161 : decode cX11_compare 161 = .ok (.istore 6, 2) := by decide +kernel
theorem dX11_compare_163 : decode cX11_compare 163 = .ok (.iload 4, 2) := by decide +kernel
theorem dX11_compare_165 : decode cX11_compare 165 = .ok (.istore 7, 2) := by decide +kernel
theorem dX11_compare_167 : decode cX11_compare 167 = .ok (.iload 7, 2) := by decide +kernel
theorem dX11_compare_169 : decode cX11_compare 169 = .ok (.aload_n 0, 1) := by decide +kernel
theorem dX11_compare_170 : decode cX11_compare 170 = .ok (.getfield 171, 3) := by decide +kernel
theorem dX11_compare_173 : decode cX11_compare 173 = .ok (.if_icmp .ge 75, 3) := by decide +kernel
theorem dX11_compare_176 : decode cX11_compare 176 = .ok (.iload 6, 2) := by decide +kernel
theorem dX11_compare_178 : decode cX11_compare 178 = .ok (.iconst (-1), 1) := by decide +kernel
theorem dX11_compare_179 : decode cX11_compare 179 = .ok (.if_icmp .ne 69, 3) := by decide +kernel
theorem dX11_compare_182 : decode cX11_compare 182 = .ok (.iload_n 3, 1) := by decide +kernel
theorem dX11_compare_183 : decode cX11_compare 183 = .ok (.ifCond .le 65, 3) := by decide +kernel
theorem dX11_compare_186 : decode cX11_compare 186 = .ok (.aload_n 0, 1) := by decide +kernel
theorem dX11_compare_187 : decode cX11_compare 187 = .ok (.aload_n 0, 1) := by decide +kernel
theorem dX11_compare_188 : decode cX11_compare 188 = .ok (.getfield 75, 3) := by decide +kernel
theorem dX11_compare_191 : decode cX11_compare 191 = .ok (.iload 7, 2) := by decide +kernel
theorem dX11_compare_193 : decode cX11_compare 193 = .ok (.iaload, 1) := by decide +kernel
theorem dX11_compare_194 : decode cX11_compare 194 = .ok (.aload_n 0, 1) := by decide +kernel
theorem dX11_compare_195 : decode cX11_compare 195 = .ok (.getfield 39, 3) := by decide +kernel
theorem dX11_compare_198 : decode cX11_compare 198 = .ok (.iconst 4, 1) := by decide +kernel
theorem dX11_compare_199 : decode cX11_compare 199 = .ok (.iload_n 2, 1) := by decide +kernel
theorem dX11_compare_200 : decode cX11_compare 200 = .ok (.imul, 1) := by decide +kernel
theorem dX11_compare_201 : decode cX11_compare 201 = .ok (.iload 5, 2) := by decide +kernel
theorem dX11_compare_203 : decode cX11_compare 203 = .ok (.iadd, 1) := by decide +kernel
theorem dX11_compare_204 : decode cX11_compare 204 = .ok (.iaload, 1) := by decide +kernel
theorem dX11_compare_205 : decode cX11_compare 205 = .ok (.invokevirtual 177, 3) := by decide +kernel
theorem dX11_compare_208 : decode cX11_compare 208 = .ok (.ifCond .eq 31, 3) := by decide +kernel
theorem dX11_compare_211 : decode cX11_compare 211 = .ok (.iconst 1, 1) := by decide +kernel
theorem dX11_compare_212 : decode cX11_compare 212 = .ok (.aload_n 0, 1) := by decide +kernel
theorem dX11_compare_213 : decode cX11_compare 213 = .ok (.getfield 105, 3) := by decide +kernel
theorem dX11_compare_216 : decode cX11_compare 216 = .ok (.bipush 12, 2) := by decide +kernel
theorem dX11_compare_218 : decode cX11_compare 218 = .ok (.iload 5, 2) := by decide +kernel
theorem dX11_compare_220 : decode cX11_compare 220 = .ok (.iconst 1, 1) := by decide +kernel
theorem dX11_compare_221 : decode cX11_compare 221 = .ok (.iadd, 1) := by decide +kernel
theorem dX11_compare_222 : decode cX11_compare 222 = .ok (.imul, 1) := by decide +kernel
theorem dX11_compare_223 : decode cX11_compare 223 = .ok (.iload 7, 2) := by decide +kernel
theorem dX11_compare_225 : decode cX11_compare 225 = .ok (.iadd, 1) := by decide +kernel
theorem dX11_compare_226 : decode cX11_compare 226 = .ok (.iconst 1, 1) := by decide +kernel
theorem dX11_compare_227 : decode cX11_compare 227 = .ok (.iadd, 1) := by decide +kernel
theorem dX11_compare_228 : decode cX11_compare 228 = .ok (.iaload, 1) := by decide +kernel
theorem dX11_compare_229 : decode cX11_compare 229 = .ok (.iadd, 1) := by decide +kernel
theorem dX11_compare_230 : decode cX11_compare 230 = .ok (.iload_n 3, 1) := by decide +kernel
theorem dX11_compare_231 : decode cX11_compare 231 = .ok (.if_icmp .ne 8, 3) := by decide +kernel
theorem dX11_compare_234 : decode cX11_compare 234 = .ok (.iload 7, 2) := by decide +kernel
theorem dX11_compare_236 : decode cX11_compare 236 = .ok (.goto 4, 3) := by decide +kernel
theorem dX11_compare_239 : decode cX11_compare 239 = .ok (.iconst (-1), 1) := by decide +kernel
theorem dX11_compare_240 : decode cX11_compare 240 = .ok (.istore 6, 2) := by decide +kernel
theorem dX11_compare_242 : decode cX11_compare 242 = .ok (.iinc 7 1, 3) := by decide +kernel
theorem dX11_compare_245 : decode cX11_compare 245 = .ok (.goto (-78), 3) := by decide +kernel
theorem dX11_compare_248 : decode cX11_compare 248 = .ok (.iload 6, 2) := by decide +kernel
theorem dX11_compare_250 : decode cX11_compare 250 = .ok (.iconst (-1), 1) := by decide +kernel
theorem dX11_compare_251 : decode cX11_compare 251 = .ok (.if_icmp .ne 36, 3) := by decide +kernel
theorem dX11_compare_254 : decode cX11_compare 254 = .ok (.aload_n 0, 1) := by decide +kernel
theorem dX11_compare_255 : decode cX11_compare 255 = .ok (.getfield 108, 3) := by decide +kernel
theorem dX11_compare_258 : decode cX11_compare 258 = .ok (.aload_n 0, 1) := by decide +kernel
theorem dX11_compare_259 : decode cX11_compare 259 = .ok (.getfield 239, 3) := by decide +kernel
theorem dX11_compare_262 : decode cX11_compare 262 = .ok (.aload_n 0, 1) := by decide +kernel
theorem dX11_compare_263 : decode cX11_compare 263 = .ok (.getfield 39, 3) := by decide +kernel
theorem dX11_compare_266 : decode cX11_compare 266 = .ok (.iconst 4, 1) := by decide +kernel
theorem dX11_compare_267 : decode cX11_compare 267 = .ok (.iload_n 2, 1) := by decide +kernel
theorem dX11_compare_268 : decode cX11_compare 268 = .ok (.imul, 1) := by decide +kernel
theorem dX11_compare_269 : decode cX11_compare 269 = .ok (.iload 5, 2) := by decide +kernel
theorem dX11_compare_271 : decode cX11_compare 271 = .ok (.iadd, 1) := by decide +kernel
theorem dX11_compare_272 : decode cX11_compare 272 = .ok (.iaload, 1) := by decide +kernel
theorem dX11_compare_273 : decode cX11_compare 273 = .ok (.iastore, 1) := by decide +kernel
theorem dX11_compare_274 : decode cX11_compare 274 = .ok (.aload_n 0, 1) := by decide +kernel
theorem dX11_compare_275 : decode cX11_compare 275 = .ok (.dup, 1) := by decide +kernel
theorem dX11_compare_276 : decode cX11_compare 276 = .ok (.getfield 239, 3) := by decide +kernel
theorem dX11_compare_279 : decode cX11_compare 279 = .ok (.iconst 1, 1) := by decide +kernel
theorem dX11_compare_280 : decode cX11_compare 280 = .ok (.iadd, 1) := by decide +kernel
theorem dX11_compare_281 : decode cX11_compare 281 = .ok (.putfield 239, 3) := by decide +kernel
theorem dX11_compare_284 : decode cX11_compare 284 = .ok (.goto 12, 3) := by decide +kernel
theorem dX11_compare_287 : decode cX11_compare 287 = .ok (.iload 6, 2) := by decide +kernel
theorem dX11_compare_289 : decode cX11_compare 289 = .ok (.iconst 1, 1) := by decide +kernel
theorem dX11_compare_290 : decode cX11_compare 290 = .ok (.iadd, 1) := by decide +kernel
theorem dX11_compare_291 : decode cX11_compare 291 = .ok (.istore 4, 2) := by decide +kernel
theorem dX11_compare_293 : decode cX11_compare 293 = .ok (.iinc 3 (-1), 3) := by decide +kernel
theorem dX11_compare_296 : decode cX11_compare 296 = .ok (.iinc 5 1, 3) := by decide +kernel
theorem dX11_compare_299 : decode cX11_compare 299 = .ok (.goto (-150), 3) := by decide +kernel
theorem dX11_compare_302 : decode cX11_compare 302 = .ok (.return_, 1) := by decide +kernel
theorem dX11_mayCome_0 : decode cX11_mayCome 0 = .ok (.aload_n 0, 1) := by decide +kernel
theorem dX11_mayCome_1 : decode cX11_mayCome 1 = .ok (.getfield 171, 3) := by decide +kernel
theorem dX11_mayCome_4 : decode cX11_mayCome 4 = .ok (.ifCond .ne 19, 3) := by decide +kernel
theorem dX11_mayCome_7 : decode cX11_mayCome 7 = .ok (.aload_n 0, 1) := by decide +kernel
theorem dX11_mayCome_8 : decode cX11_mayCome 8 = .ok (.getfield 36, 3) := by decide +kernel
theorem dX11_mayCome_11 : decode cX11_mayCome 11 = .ok (.iload_n 2, 1) := by decide +kernel
theorem dX11_mayCome_12 : decode cX11_mayCome 12 = .ok (.iaload, 1) := by decide +kernel
theorem dX11_mayCome_13 : decode cX11_mayCome 13 = .ok (.iload_n 1, 1) := by decide +kernel
theorem dX11_mayCome_14 : decode cX11_mayCome 14 = .ok (.if_icmp .ne 7, 3) := by decide +kernel
theorem dX11_mayCome_17 : decode cX11_mayCome 17 = .ok (.iconst 1, 1) := by decide +kernel
theorem dX11_mayCome_18 : decode cX11_mayCome 18 = .ok (.goto 4, 3) := by decide +kernel
theorem dX11_mayCome_21 : decode cX11_mayCome 21 = .ok (.iconst 0, 1) := by decide +kernel
theorem dX11_mayCome_22 : decode cX11_mayCome 22 = .ok (.ireturn, 1) := by decide +kernel
theorem dX11_mayCome_23 : decode cX11_mayCome 23 = .ok (.aload_n 0, 1) := by decide +kernel
theorem dX11_mayCome_24 : decode cX11_mayCome 24 = .ok (.getfield 171, 3) := by decide +kernel
theorem dX11_mayCome_27 : decode cX11_mayCome 27 = .ok (.iconst 1, 1) := by decide +kernel
theorem dX11_mayCome_28 : decode cX11_mayCome 28 = .ok (.isub, 1) := by decide +kernel
theorem dX11_mayCome_29 : decode cX11_mayCome 29 = .ok (.istore_n 3, 1) := by decide +kernel
theorem dX11_mayCome_30 : decode cX11_mayCome 30 = .ok (.aload_n 0, 1) := by decide +kernel
theorem dX11_mayCome_31 : decode cX11_mayCome 31 = .ok (.getfield 36, 3) := by decide +kernel
theorem dX11_mayCome_34 : decode cX11_mayCome 34 = .ok (.iload_n 2, 1) := by decide +kernel
theorem dX11_mayCome_35 : decode cX11_mayCome 35 = .ok (.iaload, 1) := by decide +kernel
theorem dX11_mayCome_36 : decode cX11_mayCome 36 = .ok (.aload_n 0, 1) := by decide +kernel
theorem dX11_mayCome_37 : decode cX11_mayCome 37 = .ok (.getfield 75, 3) := by decide +kernel
theorem dX11_mayCome_40 : decode cX11_mayCome 40 = .ok (.iconst 0, 1) := by decide +kernel
theorem dX11_mayCome_41 : decode cX11_mayCome 41 = .ok (.iaload, 1) := by decide +kernel
theorem dX11_mayCome_42 : decode cX11_mayCome 42 = .ok (.if_icmp .ne 35, 3) := by decide +kernel
theorem dX11_mayCome_45 : decode cX11_mayCome 45 = .ok (.aload_n 0, 1) := by decide +kernel
theorem dX11_mayCome_46 : decode cX11_mayCome 46 = .ok (.getfield 42, 3) := by decide +kernel
theorem dX11_mayCome_49 : decode cX11_mayCome 49 = .ok (.iload_n 2, 1) := by decide +kernel
theorem dX11_mayCome_50 : decode cX11_mayCome 50 = .ok (.iaload, 1) := by decide +kernel
theorem dX11_mayCome_51 : decode cX11_mayCome 51 = .ok (.iload_n 3, 1) := by decide +kernel
theorem dX11_mayCome_52 : decode cX11_mayCome 52 = .ok (.if_icmp .le 25, 3) := by decide +kernel
theorem dX11_mayCome_55 : decode cX11_mayCome 55 = .ok (.aload_n 0, 1) := by decide +kernel
theorem dX11_mayCome_56 : decode cX11_mayCome 56 = .ok (.iload_n 1, 1) := by decide +kernel
theorem dX11_mayCome_57 : decode cX11_mayCome 57 = .ok (.aload_n 0, 1) := by decide +kernel
theorem dX11_mayCome_58 : decode cX11_mayCome 58 = .ok (.getfield 39, 3) := by decide +kernel
theorem dX11_mayCome_61 : decode cX11_mayCome 61 = .ok (.iconst 4, 1) := by decide +kernel
theorem dX11_mayCome_62 : decode cX11_mayCome 62 = .ok (.iload_n 2, 1) := by decide +kernel
theorem dX11_mayCome_63 : decode cX11_mayCome 63 = .ok (.imul, 1) := by decide +kernel
theorem dX11_mayCome_64 : decode cX11_mayCome 64 = .ok (.iload_n 3, 1) := by decide +kernel
theorem dX11_mayCome_65 : decode cX11_mayCome 65 = .ok (.iadd, 1) := by decide +kernel
theorem dX11_mayCome_66 : decode cX11_mayCome 66 = .ok (.iaload, 1) := by decide +kernel
theorem dX11_mayCome_67 : decode cX11_mayCome 67 = .ok (.invokevirtual 177, 3) := by decide +kernel
theorem dX11_mayCome_70 : decode cX11_mayCome 70 = .ok (.ifCond .eq 7, 3) := by decide +kernel
theorem dX11_mayCome_73 : decode cX11_mayCome 73 = .ok (.iconst 1, 1) := by decide +kernel
theorem dX11_mayCome_74 : decode cX11_mayCome 74 = .ok (.goto 4, 3) := by decide +kernel
theorem dX11_mayCome_77 : decode cX11_mayCome 77 = .ok (.iconst 0, 1) := by decide +kernel
theorem dX11_mayCome_78 : decode cX11_mayCome 78 = .ok (.istore 4, 2) := by decide +kernel
theorem dX11_mayCome_80 : decode cX11_mayCome 80 = .ok (.iconst 0, 1) := by decide +kernel
theorem dX11_mayCome_81 : decode cX11_mayCome 81 = .ok (.istore 5, 2) := by decide +kernel
theorem dX11_mayCome_83 : decode cX11_mayCome 83 = .ok (.iload 5, 2) := by decide +kernel
theorem dX11_mayCome_85 : decode cX11_mayCome 85 = .ok (.iload_n 3, 1) := by decide +kernel
theorem dX11_mayCome_86 : decode cX11_mayCome 86 = .ok (.if_icmp .ge 40, 3) := by decide +kernel
theorem dX11_mayCome_89 : decode cX11_mayCome 89 = .ok (.iload 4, 2) := by decide +kernel
theorem dX11_mayCome_91 : decode cX11_mayCome 91 = .ok (.ifCond .eq 35, 3) := by decide +kernel
theorem dX11_mayCome_94 : decode cX11_mayCome 94 = .ok (.aload_n 0, 1) := by decide +kernel
theorem dX11_mayCome_95 : decode cX11_mayCome 95 = .ok (.aload_n 0, 1) := by decide +kernel
theorem dX11_mayCome_96 : decode cX11_mayCome 96 = .ok (.getfield 75, 3) := by decide +kernel
theorem dX11_mayCome_99 : decode cX11_mayCome 99 = .ok (.iload 5, 2) := by decide +kernel
theorem dX11_mayCome_101 : decode cX11_mayCome 101 = .ok (.iconst 1, 1) := by decide +kernel
theorem dX11_mayCome_102 : decode cX11_mayCome 102 = .ok (.iadd, 1) := by decide +kernel
theorem dX11_mayCome_103 : decode cX11_mayCome 103 = .ok (.iaload, 1) := by decide +kernel
theorem dX11_mayCome_104 : decode cX11_mayCome 104 = .ok (.aload_n 0, 1) := by decide +kernel
theorem dX11_mayCome_105 : decode cX11_mayCome 105 = .ok (.getfield 39, 3) := by decide +kernel
theorem dX11_mayCome_108 : decode cX11_mayCome 108 = .ok (.iconst 4, 1) := by decide +kernel
theorem dX11_mayCome_109 : decode cX11_mayCome 109 = .ok (.iload_n 2, 1) := by decide +kernel
theorem dX11_mayCome_110 : decode cX11_mayCome 110 = .ok (.imul, 1) := by decide +kernel
theorem dX11_mayCome_111 : decode cX11_mayCome 111 = .ok (.iload 5, 2) := by decide +kernel
theorem dX11_mayCome_113 : decode cX11_mayCome 113 = .ok (.iadd, 1) := by decide +kernel
theorem dX11_mayCome_114 : decode cX11_mayCome 114 = .ok (.iaload, 1) := by decide +kernel
theorem dX11_mayCome_115 : decode cX11_mayCome 115 = .ok (.invokevirtual 177, 3) := by decide +kernel
theorem dX11_mayCome_118 : decode cX11_mayCome 118 = .ok (.istore 4, 2) := by decide +kernel
theorem dX11_mayCome_120 : decode cX11_mayCome 120 = .ok (.iinc 5 1, 3) := by decide +kernel
theorem dX11_mayCome_123 : decode cX11_mayCome 123 = .ok (.goto (-40), 3) := by decide +kernel
theorem dX11_mayCome_126 : decode cX11_mayCome 126 = .ok (.iload 4, 2) := by decide +kernel
theorem dX11_mayCome_128 : decode cX11_mayCome 128 = .ok (.ireturn, 1) := by decide +kernel
theorem dX11_hints_0 : decode cX11_hints 0 = .ok (.aload_n 0, 1) := by decide +kernel
theorem dX11_hints_1 : decode cX11_hints 1 = .ok (.invokevirtual 190, 3) := by decide +kernel
theorem dX11_hints_4 : decode cX11_hints 4 = .ok (.aload_n 0, 1) := by decide +kernel
theorem dX11_hints_5 : decode cX11_hints 5 = .ok (.iconst 0, 1) := by decide +kernel
theorem dX11_hints_6 : decode cX11_hints 6 = .ok (.putfield 248, 3) := by decide +kernel
theorem dX11_hints_9 : decode cX11_hints 9 = .ok (.aload_n 0, 1) := by decide +kernel
theorem dX11_hints_10 : decode cX11_hints 10 = .ok (.getfield 171, 3) := by decide +kernel
theorem dX11_hints_13 : decode cX11_hints 13 = .ok (.ifCond .eq 27, 3) := by decide +kernel
theorem dX11_hints_16 : decode cX11_hints 16 = .ok (.aload_n 0, 1) := by decide +kernel
theorem dX11_hints_17 : decode cX11_hints 17 = .ok (.getfield 75, 3) := by decide +kernel
theorem dX11_hints_20 : decode cX11_hints 20 = .ok (.iconst 0, 1) := by decide +kernel
theorem dX11_hints_21 : decode cX11_hints 21 = .ok (.iaload, 1) := by decide +kernel
theorem dX11_hints_22 : decode cX11_hints 22 = .ok (.iconst (-1), 1) := by decide +kernel
theorem dX11_hints_23 : decode cX11_hints 23 = .ok (.if_icmp .eq 21, 3) := by decide +kernel
theorem dX11_hints_26 : decode cX11_hints 26 = .ok (.aload_n 0, 1) := by decide +kernel
theorem dX11_hints_27 : decode cX11_hints 27 = .ok (.getfield 13, 3) := by decide +kernel
theorem dX11_hints_30 : decode cX11_hints 30 = .ok (.aload_n 0, 1) := by decide +kernel
theorem dX11_hints_31 : decode cX11_hints 31 = .ok (.getfield 75, 3) := by decide +kernel
theorem dX11_hints_34 : decode cX11_hints 34 = .ok (.iconst 0, 1) := by decide +kernel
theorem dX11_hints_35 : decode cX11_hints 35 = .ok (.iaload, 1) := by decide +kernel
theorem dX11_hints_36 : decode cX11_hints 36 = .ok (.iaload, 1) := by decide +kernel
theorem dX11_hints_37 : decode cX11_hints 37 = .ok (.ifCond .ne 7, 3) := by decide +kernel
theorem dX11_hints_40 : decode cX11_hints 40 = .ok (.iconst 1, 1) := by decide +kernel
theorem dX11_hints_41 : decode cX11_hints 41 = .ok (.goto 4, 3) := by decide +kernel
theorem dX11_hints_44 : decode cX11_hints 44 = .ok (.iconst 0, 1) := by decide +kernel
theorem dX11_hints_45 : decode cX11_hints 45 = .ok (.istore_n 1, 1) := by decide +kernel
theorem dX11_hints_46 : decode cX11_hints 46 = .ok (.iconst 0, 1) := by decide +kernel
theorem dX11_hints_47 : decode cX11_hints 47 = .ok (.istore_n 2, 1) := by decide +kernel
theorem dX11_hints_48 : decode cX11_hints 48 = .ok (.iload_n 2, 1) := by decide +kernel
theorem dX11_hints_49 : decode cX11_hints 49 = .ok (.aload_n 0, 1) := by decide +kernel
theorem dX11_hints_50 : decode cX11_hints 50 = .ok (.getfield 171, 3) := by decide +kernel
theorem dX11_hints_53 : decode cX11_hints 53 = .ok (.if_icmp .ge 42, 3) := by decide +kernel
theorem dX11_hints_56 : decode cX11_hints 56 = .ok (.iload_n 1, 1) := by decide +kernel
theorem dX11_hints_57 : decode cX11_hints 57 = .ok (.ifCond .eq 30, 3) := by decide +kernel
theorem dX11_hints_60 : decode cX11_hints 60 = .ok (.aload_n 0, 1) := by decide +kernel
theorem dX11_hints_61 : decode cX11_hints 61 = .ok (.getfield 75, 3) := by decide +kernel
theorem dX11_hints_64 : decode cX11_hints 64 = .ok (.iload_n 2, 1) := by decide +kernel
theorem dX11_hints_65 : decode cX11_hints 65 = .ok (.iaload, 1) := by decide +kernel
theorem dX11_hints_66 : decode cX11_hints 66 = .ok (.iconst (-1), 1) := by decide +kernel
theorem dX11_hints_67 : decode cX11_hints 67 = .ok (.if_icmp .eq 20, 3) := by decide +kernel
theorem dX11_hints_70 : decode cX11_hints 70 = .ok (.aload_n 0, 1) := by decide +kernel
theorem dX11_hints_71 : decode cX11_hints 71 = .ok (.aload_n 0, 1) := by decide +kernel
theorem dX11_hints_72 : decode cX11_hints 72 = .ok (.getfield 75, 3) := by decide +kernel
theorem dX11_hints_75 : decode cX11_hints 75 = .ok (.iload_n 2, 1) := by decide +kernel
theorem dX11_hints_76 : decode cX11_hints 76 = .ok (.iaload, 1) := by decide +kernel
theorem dX11_hints_77 : decode cX11_hints 77 = .ok (.invokevirtual 174, 3) := by decide +kernel
theorem dX11_hints_80 : decode cX11_hints 80 = .ok (.ifCond .eq 7, 3) := by decide +kernel
theorem dX11_hints_83 : decode cX11_hints 83 = .ok (.iconst 1, 1) := by decide +kernel
theorem dX11_hints_84 : decode cX11_hints 84 = .ok (.goto 4, 3) := by decide +kernel
theorem dX11_hints_87 : decode cX11_hints 87 = .ok (.iconst 0, 1) := by decide +kernel
theorem dX11_hints_88 : decode cX11_hints 88 = .ok (.istore_n 1, 1) := by decide +kernel
theorem dX11_hints_89 : decode cX11_hints 89 = .ok (.iinc 2 1, 3) := by decide +kernel
theorem dX11_hints_92 : decode cX11_hints 92 = .ok (.goto (-44), 3) := by decide +kernel
theorem dX11_hints_95 : decode cX11_hints 95 = .ok (.iconst 0, 1) := by decide +kernel
theorem dX11_hints_96 : decode cX11_hints 96 = .ok (.istore_n 2, 1) := by decide +kernel
theorem dX11_hints_97 : decode cX11_hints 97 = .ok (.iload_n 2, 1) := by decide +kernel
theorem dX11_hints_98 : decode cX11_hints 98 = .ok (.aload_n 0, 1) := by decide +kernel
theorem dX11_hints_99 : decode cX11_hints 99 = .ok (.getfield 140, 3) := by decide +kernel
theorem dX11_hints_102 : decode cX11_hints 102 = .ok (.if_icmp .ge 95, 3) := by decide +kernel
theorem dX11_hints_105 : decode cX11_hints 105 = .ok (.iload_n 1, 1) := by decide +kernel
theorem dX11_hints_106 : decode cX11_hints 106 = .ok (.ifCond .eq 91, 3) := by decide +kernel
theorem dX11_hints_109 : decode cX11_hints 109 = .ok (.iconst 0, 1) := by decide +kernel
theorem dX11_hints_110 : decode cX11_hints 110 = .ok (.istore_n 3, 1) := by decide +kernel
theorem dX11_hints_111 : decode cX11_hints 111 = .ok (.iconst 0, 1) := by decide +kernel
theorem dX11_hints_112 : decode cX11_hints 112 = .ok (.istore 4, 2) := by decide +kernel
theorem dX11_hints_114 : decode cX11_hints 114 = .ok (.iload 4, 2) := by decide +kernel
theorem dX11_hints_116 : decode cX11_hints 116 = .ok (.aload_n 0, 1) := by decide +kernel
theorem dX11_hints_117 : decode cX11_hints 117 = .ok (.getfield 151, 3) := by decide +kernel
theorem dX11_hints_120 : decode cX11_hints 120 = .ok (.if_icmp .ge 47, 3) := by decide +kernel
theorem dX11_hints_123 : decode cX11_hints 123 = .ok (.iload_n 3, 1) := by decide +kernel
theorem dX11_hints_124 : decode cX11_hints 124 = .ok (.ifCond .ne 31, 3) := by decide +kernel
theorem dX11_hints_127 : decode cX11_hints 127 = .ok (.aload_n 0, 1) := by decide +kernel
theorem dX11_hints_128 : decode cX11_hints 128 = .ok (.iload_n 2, 1) := by decide +kernel
theorem dX11_hints_129 : decode cX11_hints 129 = .ok (.invokevirtual 174, 3) := by decide +kernel
theorem dX11_hints_132 : decode cX11_hints 132 = .ok (.ifCond .eq 27, 3) := by decide +kernel
theorem dX11_hints_135 : decode cX11_hints 135 = .ok (.aload_n 0, 1) := by decide +kernel
theorem dX11_hints_136 : decode cX11_hints 136 = .ok (.getfield 13, 3) := by decide +kernel
theorem dX11_hints_139 : decode cX11_hints 139 = .ok (.iload_n 2, 1) := by decide +kernel
theorem dX11_hints_140 : decode cX11_hints 140 = .ok (.iaload, 1) := by decide +kernel
theorem dX11_hints_141 : decode cX11_hints 141 = .ok (.iconst 3, 1) := by decide +kernel
theorem dX11_hints_142 : decode cX11_hints 142 = .ok (.if_icmp .eq 17, 3) := by decide +kernel
theorem dX11_hints_145 : decode cX11_hints 145 = .ok (.aload_n 0, 1) := by decide +kernel
theorem dX11_hints_146 : decode cX11_hints 146 = .ok (.iload_n 2, 1) := by decide +kernel
theorem dX11_hints_147 : decode cX11_hints 147 = .ok (.iload 4, 2) := by decide +kernel
theorem dX11_hints_149 : decode cX11_hints 149 = .ok (.invokevirtual 251, 3) := by decide +kernel
theorem dX11_hints_152 : decode cX11_hints 152 = .ok (.ifCond .eq 7, 3) := by decide +kernel
theorem dX11_hints_155 : decode cX11_hints 155 = .ok (.iconst 1, 1) := by decide +kernel
theorem dX11_hints_156 : decode cX11_hints 156 = .ok (.goto 4, 3) := by decide +kernel
theorem dX11_hints_159 : decode cX11_hints 159 = .ok (.iconst 0, 1) := by decide +kernel
theorem dX11_hints_160 : decode cX11_hints 160 = .ok (.istore_n 3, 1) := by decide +kernel
theorem dX11_hints_161 : decode cX11_hints 161 = .ok (.iinc 4 1, 3) := by decide +kernel
theorem dX11_hints_164 : decode cX11_hints 164 = .ok (.goto (-50), 3) := by decide +kernel
theorem dX11_hints_167 : decode cX11_hints 167 = .ok (.iload_n 3, 1) := by decide +kernel
theorem dX11_hints_168 : decode cX11_hints 168 = .ok (.ifCond .eq 23, 3) := by decide +kernel
theorem dX11_hints_171 : decode cX11_hints 171 = .ok (.aload_n 0, 1) := by decide +kernel
theorem dX11_hints_172 : decode cX11_hints 172 = .ok (.getfield 111, 3) := by decide +kernel
theorem dX11_hints_175 : decode cX11_hints 175 = .ok (.aload_n 0, 1) := by decide +kernel
theorem dX11_hints_176 : decode cX11_hints 176 = .ok (.getfield 248, 3) := by decide +kernel
theorem dX11_hints_179 : decode cX11_hints 179 = .ok (.iload_n 2, 1) := by decide +kernel
theorem dX11_hints_180 : decode cX11_hints 180 = .ok (.iastore, 1) := by decide +kernel
theorem dX11_hints_181 : decode cX11_hints 181 = .ok (.aload_n 0, 1) := by decide +kernel
theorem dX11_hints_182 : decode cX11_hints 182 = .ok (.dup, 1) := by decide +kernel
theorem dX11_hints_183 : decode cX11_hints 183 = .ok (.getfield 248, 3) := by decide +kernel
theorem dX11_hints_186 : decode cX11_hints 186 = .ok (.iconst 1, 1) := by decide +kernel
theorem dX11_hints_187 : decode cX11_hints 187 = .ok (.iadd, 1) := by decide +kernel
theorem dX11_hints_188 : decode cX11_hints 188 = .ok (.putfield 248, 3) := by decide +kernel
theorem dX11_hints_191 : decode cX11_hints 191 = .ok (.iinc 2 1, 3) := by decide +kernel
theorem dX11_hints_194 : decode cX11_hints 194 = .ok (.goto (-97), 3) := by decide +kernel
theorem dX11_hints_197 : decode cX11_hints 197 = .ok (.return_, 1) := by decide +kernel
theorem dX11_told_0 : decode cX11_told 0 = .ok (.aload_n 0, 1) := by decide +kernel
theorem dX11_told_1 : decode cX11_told 1 = .ok (.iconst 0, 1) := by decide +kernel
theorem dX11_told_2 : decode cX11_told 2 = .ok (.putfield 1, 3) := by decide +kernel
theorem dX11_told_5 : decode cX11_told 5 = .ok (.iload_n 1, 1) := by decide +kernel
theorem dX11_told_6 : decode cX11_told 6 = .ok (.iconst 0, 1) := by decide +kernel
theorem dX11_told_7 : decode cX11_told 7 = .ok (.bipush 8, 2) := by decide +kernel
theorem dX11_told_9 : decode cX11_told 9 = .ok (.invokestatic 120, 3) := by decide +kernel
theorem dX11_told_12 : decode cX11_told 12 = .ok (.ifCond .ne 6, 3) := by decide +kernel
theorem dX11_told_15 : decode cX11_told 15 = .ok (.bipush (-2), 2) := by decide +kernel
theorem dX11_told_17 : decode cX11_told 17 = .ok (.ireturn, 1) := by decide +kernel
theorem dX11_told_18 : decode cX11_told 18 = .ok (.iload_n 1, 1) := by decide +kernel
theorem dX11_told_19 : decode cX11_told 19 = .ok (.iconst 3, 1) := by decide +kernel
theorem dX11_told_20 : decode cX11_told 20 = .ok (.if_icmp .ne 12, 3) := by decide +kernel
theorem dX11_told_23 : decode cX11_told 23 = .ok (.aload_n 0, 1) := by decide +kernel
theorem dX11_told_24 : decode cX11_told 24 = .ok (.invokevirtual 220, 3) := by decide +kernel
theorem dX11_told_27 : decode cX11_told 27 = .ok (.aload_n 0, 1) := by decide +kernel
theorem dX11_told_28 : decode cX11_told 28 = .ok (.getfield 211, 3) := by decide +kernel
theorem dX11_told_31 : decode cX11_told 31 = .ok (.ireturn, 1) := by decide +kernel
theorem dX11_told_32 : decode cX11_told 32 = .ok (.iload_n 1, 1) := by decide +kernel
theorem dX11_told_33 : decode cX11_told 33 = .ok (.bipush 7, 2) := by decide +kernel
theorem dX11_told_35 : decode cX11_told 35 = .ok (.if_icmp .ne 12, 3) := by decide +kernel
theorem dX11_told_38 : decode cX11_told 38 = .ok (.aload_n 0, 1) := by decide +kernel
theorem dX11_told_39 : decode cX11_told 39 = .ok (.invokevirtual 254, 3) := by decide +kernel
theorem dX11_told_42 : decode cX11_told 42 = .ok (.aload_n 0, 1) := by decide +kernel
theorem dX11_told_43 : decode cX11_told 43 = .ok (.getfield 248, 3) := by decide +kernel
theorem dX11_told_46 : decode cX11_told 46 = .ok (.ireturn, 1) := by decide +kernel
theorem dX11_told_47 : decode cX11_told 47 = .ok (.iload_n 1, 1) := by decide +kernel
theorem dX11_told_48 : decode cX11_told 48 = .ok (.bipush 8, 2) := by decide +kernel
theorem dX11_told_50 : decode cX11_told 50 = .ok (.if_icmp .ne 8, 3) := by decide +kernel
theorem dX11_told_53 : decode cX11_told 53 = .ok (.aload_n 0, 1) := by decide +kernel
theorem dX11_told_54 : decode cX11_told 54 = .ok (.getfield 60, 3) := by decide +kernel
theorem dX11_told_57 : decode cX11_told 57 = .ok (.ireturn, 1) := by decide +kernel
theorem dX11_told_58 : decode cX11_told 58 = .ok (.iload_n 1, 1) := by decide +kernel
theorem dX11_told_59 : decode cX11_told 59 = .ok (.iconst 4, 1) := by decide +kernel
theorem dX11_told_60 : decode cX11_told 60 = .ok (.if_icmp .lt 36, 3) := by decide +kernel
theorem dX11_told_63 : decode cX11_told 63 = .ok (.aload_n 0, 1) := by decide +kernel
theorem dX11_told_64 : decode cX11_told 64 = .ok (.invokevirtual 257, 3) := by decide +kernel
theorem dX11_told_67 : decode cX11_told 67 = .ok (.iload_n 1, 1) := by decide +kernel
theorem dX11_told_68 : decode cX11_told 68 = .ok (.iconst 4, 1) := by decide +kernel
theorem dX11_told_69 : decode cX11_told 69 = .ok (.if_icmp .ne 10, 3) := by decide +kernel
theorem dX11_told_72 : decode cX11_told 72 = .ok (.aload_n 0, 1) := by decide +kernel
theorem dX11_told_73 : decode cX11_told 73 = .ok (.getfield 236, 3) := by decide +kernel
theorem dX11_told_76 : decode cX11_told 76 = .ok (.goto 19, 3) := by decide +kernel
theorem dX11_told_79 : decode cX11_told 79 = .ok (.iload_n 1, 1) := by decide +kernel
theorem dX11_told_80 : decode cX11_told 80 = .ok (.iconst 5, 1) := by decide +kernel
theorem dX11_told_81 : decode cX11_told 81 = .ok (.if_icmp .ne 10, 3) := by decide +kernel
theorem dX11_told_84 : decode cX11_told 84 = .ok (.aload_n 0, 1) := by decide +kernel
theorem dX11_told_85 : decode cX11_told 85 = .ok (.getfield 239, 3) := by decide +kernel
theorem dX11_told_88 : decode cX11_told 88 = .ok (.goto 7, 3) := by decide +kernel
theorem dX11_told_91 : decode cX11_told 91 = .ok (.aload_n 0, 1) := by decide +kernel
theorem dX11_told_92 : decode cX11_told 92 = .ok (.getfield 242, 3) := by decide +kernel
theorem dX11_told_95 : decode cX11_told 95 = .ok (.ireturn, 1) := by decide +kernel
theorem dX11_told_96 : decode cX11_told 96 = .ok (.aload_n 0, 1) := by decide +kernel
theorem dX11_told_97 : decode cX11_told 97 = .ok (.invokevirtual 190, 3) := by decide +kernel
theorem dX11_told_100 : decode cX11_told 100 = .ok (.iload_n 1, 1) := by decide +kernel
theorem dX11_told_101 : decode cX11_told 101 = .ok (.ifCond .ne 10, 3) := by decide +kernel
theorem dX11_told_104 : decode cX11_told 104 = .ok (.aload_n 0, 1) := by decide +kernel
theorem dX11_told_105 : decode cX11_told 105 = .ok (.getfield 171, 3) := by decide +kernel
theorem dX11_told_108 : decode cX11_told 108 = .ok (.goto 46, 3) := by decide +kernel
theorem dX11_told_111 : decode cX11_told 111 = .ok (.iload_n 1, 1) := by decide +kernel
theorem dX11_told_112 : decode cX11_told 112 = .ok (.iconst 1, 1) := by decide +kernel
theorem dX11_told_113 : decode cX11_told 113 = .ok (.if_icmp .ne 26, 3) := by decide +kernel
theorem dX11_told_116 : decode cX11_told 116 = .ok (.aload_n 0, 1) := by decide +kernel
theorem dX11_told_117 : decode cX11_told 117 = .ok (.getfield 183, 3) := by decide +kernel
theorem dX11_told_120 : decode cX11_told 120 = .ok (.iconst 2, 1) := by decide +kernel
theorem dX11_told_121 : decode cX11_told 121 = .ok (.iconst 5, 1) := by decide +kernel
theorem dX11_told_122 : decode cX11_told 122 = .ok (.invokestatic 120, 3) := by decide +kernel
theorem dX11_told_125 : decode cX11_told 125 = .ok (.ifCond .eq 10, 3) := by decide +kernel
theorem dX11_told_128 : decode cX11_told 128 = .ok (.aload_n 0, 1) := by decide +kernel
theorem dX11_told_129 : decode cX11_told 129 = .ok (.getfield 180, 3) := by decide +kernel
theorem dX11_told_132 : decode cX11_told 132 = .ok (.goto 22, 3) := by decide +kernel
theorem dX11_told_135 : decode cX11_told 135 = .ok (.iconst (-1), 1) := by decide +kernel
theorem dX11_told_136 : decode cX11_told 136 = .ok (.goto 18, 3) := by decide +kernel
theorem dX11_told_139 : decode cX11_told 139 = .ok (.aload_n 0, 1) := by decide +kernel
theorem dX11_told_140 : decode cX11_told 140 = .ok (.getfield 183, 3) := by decide +kernel
theorem dX11_told_143 : decode cX11_told 143 = .ok (.ifCond .ne 10, 3) := by decide +kernel
theorem dX11_told_146 : decode cX11_told 146 = .ok (.aload_n 0, 1) := by decide +kernel
theorem dX11_told_147 : decode cX11_told 147 = .ok (.invokevirtual 186, 3) := by decide +kernel
theorem dX11_told_150 : decode cX11_told 150 = .ok (.goto 4, 3) := by decide +kernel
theorem dX11_told_153 : decode cX11_told 153 = .ok (.iconst (-1), 1) := by decide +kernel
theorem dX11_told_154 : decode cX11_told 154 = .ok (.ireturn, 1) := by decide +kernel
theorem dX11_missing_0 : decode cX11_missing 0 = .ok (.aload_n 0, 1) := by decide +kernel
theorem dX11_missing_1 : decode cX11_missing 1 = .ok (.iconst 0, 1) := by decide +kernel
theorem dX11_missing_2 : decode cX11_missing 2 = .ok (.putfield 1, 3) := by decide +kernel
theorem dX11_missing_5 : decode cX11_missing 5 = .ok (.aload_n 0, 1) := by decide +kernel
theorem dX11_missing_6 : decode cX11_missing 6 = .ok (.invokevirtual 257, 3) := by decide +kernel
theorem dX11_missing_9 : decode cX11_missing 9 = .ok (.iload_n 1, 1) := by decide +kernel
theorem dX11_missing_10 : decode cX11_missing 10 = .ok (.iconst 0, 1) := by decide +kernel
theorem dX11_missing_11 : decode cX11_missing 11 = .ok (.aload_n 0, 1) := by decide +kernel
theorem dX11_missing_12 : decode cX11_missing 12 = .ok (.getfield 239, 3) := by decide +kernel
theorem dX11_missing_15 : decode cX11_missing 15 = .ok (.iconst 1, 1) := by decide +kernel
theorem dX11_missing_16 : decode cX11_missing 16 = .ok (.isub, 1) := by decide +kernel
theorem dX11_missing_17 : decode cX11_missing 17 = .ok (.invokestatic 120, 3) := by decide +kernel
theorem dX11_missing_20 : decode cX11_missing 20 = .ok (.ifCond .eq 12, 3) := by decide +kernel
theorem dX11_missing_23 : decode cX11_missing 23 = .ok (.aload_n 0, 1) := by decide +kernel
theorem dX11_missing_24 : decode cX11_missing 24 = .ok (.getfield 108, 3) := by decide +kernel
theorem dX11_missing_27 : decode cX11_missing 27 = .ok (.iload_n 1, 1) := by decide +kernel
theorem dX11_missing_28 : decode cX11_missing 28 = .ok (.iaload, 1) := by decide +kernel
theorem dX11_missing_29 : decode cX11_missing 29 = .ok (.goto 5, 3) := by decide +kernel
theorem dX11_missing_32 : decode cX11_missing 32 = .ok (.bipush (-2), 2) := by decide +kernel
theorem dX11_missing_34 : decode cX11_missing 34 = .ok (.ireturn, 1) := by decide +kernel
theorem dX11_hint_0 : decode cX11_hint 0 = .ok (.aload_n 0, 1) := by decide +kernel
theorem dX11_hint_1 : decode cX11_hint 1 = .ok (.iconst 0, 1) := by decide +kernel
theorem dX11_hint_2 : decode cX11_hint 2 = .ok (.putfield 1, 3) := by decide +kernel
theorem dX11_hint_5 : decode cX11_hint 5 = .ok (.aload_n 0, 1) := by decide +kernel
theorem dX11_hint_6 : decode cX11_hint 6 = .ok (.invokevirtual 254, 3) := by decide +kernel
theorem dX11_hint_9 : decode cX11_hint 9 = .ok (.iload_n 1, 1) := by decide +kernel
theorem dX11_hint_10 : decode cX11_hint 10 = .ok (.iconst 0, 1) := by decide +kernel
theorem dX11_hint_11 : decode cX11_hint 11 = .ok (.aload_n 0, 1) := by decide +kernel
theorem dX11_hint_12 : decode cX11_hint 12 = .ok (.getfield 248, 3) := by decide +kernel
theorem dX11_hint_15 : decode cX11_hint 15 = .ok (.iconst 1, 1) := by decide +kernel
theorem dX11_hint_16 : decode cX11_hint 16 = .ok (.isub, 1) := by decide +kernel
theorem dX11_hint_17 : decode cX11_hint 17 = .ok (.invokestatic 120, 3) := by decide +kernel
theorem dX11_hint_20 : decode cX11_hint 20 = .ok (.ifCond .eq 12, 3) := by decide +kernel
theorem dX11_hint_23 : decode cX11_hint 23 = .ok (.aload_n 0, 1) := by decide +kernel
theorem dX11_hint_24 : decode cX11_hint 24 = .ok (.getfield 111, 3) := by decide +kernel
theorem dX11_hint_27 : decode cX11_hint 27 = .ok (.iload_n 1, 1) := by decide +kernel
theorem dX11_hint_28 : decode cX11_hint 28 = .ok (.iaload, 1) := by decide +kernel
theorem dX11_hint_29 : decode cX11_hint 29 = .ok (.goto 5, 3) := by decide +kernel
theorem dX11_hint_32 : decode cX11_hint 32 = .ok (.bipush (-2), 2) := by decide +kernel
theorem dX11_hint_34 : decode cX11_hint 34 = .ok (.ireturn, 1) := by decide +kernel
theorem dX11_verbs_0 : decode cX11_verbs 0 = .ok (.aload_n 0, 1) := by decide +kernel
theorem dX11_verbs_1 : decode cX11_verbs 1 = .ok (.iconst 0, 1) := by decide +kernel
theorem dX11_verbs_2 : decode cX11_verbs 2 = .ok (.putfield 1, 3) := by decide +kernel
theorem dX11_verbs_5 : decode cX11_verbs 5 = .ok (.aload_n 0, 1) := by decide +kernel
theorem dX11_verbs_6 : decode cX11_verbs 6 = .ok (.iload_n 1, 1) := by decide +kernel
theorem dX11_verbs_7 : decode cX11_verbs 7 = .ok (.iconst 1, 1) := by decide +kernel
theorem dX11_verbs_8 : decode cX11_verbs 8 = .ok (.invokevirtual 147, 3) := by decide +kernel
theorem dX11_verbs_11 : decode cX11_verbs 11 = .ok (.ifCond .ne 6, 3) := by decide +kernel
theorem dX11_verbs_14 : decode cX11_verbs 14 = .ok (.bipush (-2), 2) := by decide +kernel
theorem dX11_verbs_16 : decode cX11_verbs 16 = .ok (.ireturn, 1) := by decide +kernel
theorem dX11_verbs_17 : decode cX11_verbs 17 = .ok (.iconst 0, 1) := by decide +kernel
theorem dX11_verbs_18 : decode cX11_verbs 18 = .ok (.istore_n 3, 1) := by decide +kernel
theorem dX11_verbs_19 : decode cX11_verbs 19 = .ok (.iconst (-1), 1) := by decide +kernel
theorem dX11_verbs_20 : decode cX11_verbs 20 = .ok (.istore 4, 2) := by decide +kernel
theorem dX11_verbs_22 : decode cX11_verbs 22 = .ok (.iconst 0, 1) := by decide +kernel
theorem dX11_verbs_23 : decode cX11_verbs 23 = .ok (.istore 5, 2) := by decide +kernel
theorem dX11_verbs_25 : decode cX11_verbs 25 = .ok (.iload 5, 2) := by decide +kernel
theorem dX11_verbs_27 : decode cX11_verbs 27 = .ok (.aload_n 0, 1) := by decide +kernel
theorem dX11_verbs_28 : decode cX11_verbs 28 = .ok (.getfield 140, 3) := by decide +kernel
theorem dX11_verbs_31 : decode cX11_verbs 31 = .ok (.if_icmp .ge 117, 3) := by decide +kernel
theorem dX11_verbs_34 : decode cX11_verbs 34 = .ok (.iconst 0, 1) := by decide +kernel
theorem dX11_verbs_35 : decode cX11_verbs 35 = .ok (.istore 6, 2) := by decide +kernel
theorem dX11_verbs_37 : decode cX11_verbs 37 = .ok (.iconst 0, 1) := by decide +kernel
theorem dX11_verbs_38 : decode cX11_verbs 38 = .ok (.istore 7, 2) := by decide +kernel
theorem dX11_verbs_40 : decode cX11_verbs 40 = .ok (.iload 7, 2) := by decide +kernel
theorem dX11_verbs_42 : decode cX11_verbs 42 = .ok (.aload_n 0, 1) := by decide +kernel
theorem dX11_verbs_43 : decode cX11_verbs 43 = .ok (.getfield 151, 3) := by decide +kernel
theorem dX11_verbs_46 : decode cX11_verbs 46 = .ok (.if_icmp .ge 74, 3) := by decide +kernel
theorem dX11_verbs_49 : decode cX11_verbs 49 = .ok (.iconst 0, 1) := by decide +kernel
theorem dX11_verbs_50 : decode cX11_verbs 50 = .ok (.istore 8, 2) := by decide +kernel
theorem dX11_verbs_52 : decode cX11_verbs 52 = .ok (.iload 8, 2) := by decide +kernel
theorem dX11_verbs_54 : decode cX11_verbs 54 = .ok (.aload_n 0, 1) := by decide +kernel
theorem dX11_verbs_55 : decode cX11_verbs 55 = .ok (.getfield 42, 3) := by decide +kernel
theorem dX11_verbs_58 : decode cX11_verbs 58 = .ok (.iload 7, 2) := by decide +kernel
theorem dX11_verbs_60 : decode cX11_verbs 60 = .ok (.iaload, 1) := by decide +kernel
theorem dX11_verbs_61 : decode cX11_verbs 61 = .ok (.if_icmp .ge 53, 3) := by decide +kernel
theorem dX11_verbs_64 : decode cX11_verbs 64 = .ok (.iload 6, 2) := by decide +kernel
theorem dX11_verbs_66 : decode cX11_verbs 66 = .ok (.ifCond .ne 35, 3) := by decide +kernel
theorem dX11_verbs_69 : decode cX11_verbs 69 = .ok (.aload_n 0, 1) := by decide +kernel
theorem dX11_verbs_70 : decode cX11_verbs 70 = .ok (.getfield 36, 3) := by decide +kernel
theorem dX11_verbs_73 : decode cX11_verbs 73 = .ok (.iload 7, 2) := by decide +kernel
theorem dX11_verbs_75 : decode cX11_verbs 75 = .ok (.iaload, 1) := by decide +kernel
theorem dX11_verbs_76 : decode cX11_verbs 76 = .ok (.iload 5, 2) := by decide +kernel
theorem dX11_verbs_78 : decode cX11_verbs 78 = .ok (.if_icmp .ne 27, 3) := by decide +kernel
theorem dX11_verbs_81 : decode cX11_verbs 81 = .ok (.aload_n 0, 1) := by decide +kernel
theorem dX11_verbs_82 : decode cX11_verbs 82 = .ok (.iload_n 1, 1) := by decide +kernel
theorem dX11_verbs_83 : decode cX11_verbs 83 = .ok (.aload_n 0, 1) := by decide +kernel
theorem dX11_verbs_84 : decode cX11_verbs 84 = .ok (.getfield 39, 3) := by decide +kernel
theorem dX11_verbs_87 : decode cX11_verbs 87 = .ok (.iconst 4, 1) := by decide +kernel
theorem dX11_verbs_88 : decode cX11_verbs 88 = .ok (.iload 7, 2) := by decide +kernel
theorem dX11_verbs_90 : decode cX11_verbs 90 = .ok (.imul, 1) := by decide +kernel
theorem dX11_verbs_91 : decode cX11_verbs 91 = .ok (.iload 8, 2) := by decide +kernel
theorem dX11_verbs_93 : decode cX11_verbs 93 = .ok (.iadd, 1) := by decide +kernel
theorem dX11_verbs_94 : decode cX11_verbs 94 = .ok (.iaload, 1) := by decide +kernel
theorem dX11_verbs_95 : decode cX11_verbs 95 = .ok (.invokevirtual 177, 3) := by decide +kernel
theorem dX11_verbs_98 : decode cX11_verbs 98 = .ok (.ifCond .eq 7, 3) := by decide +kernel
theorem dX11_verbs_101 : decode cX11_verbs 101 = .ok (.iconst 1, 1) := by decide +kernel
theorem dX11_verbs_102 : decode cX11_verbs 102 = .ok (.goto 4, 3) := by decide +kernel
theorem dX11_verbs_105 : decode cX11_verbs 105 = .ok (.iconst 0, 1) := by decide +kernel
theorem dX11_verbs_106 : decode cX11_verbs 106 = .ok (.istore 6, 2) := by decide +kernel
theorem dX11_verbs_108 : decode cX11_verbs 108 = .ok (.iinc 8 1, 3) := by decide +kernel
theorem dX11_verbs_111 : decode cX11_verbs 111 = .ok (.goto (-59), 3) := by decide +kernel
theorem dX11_verbs_114 : decode cX11_verbs 114 = .ok (.iinc 7 1, 3) := by decide +kernel
theorem dX11_verbs_117 : decode cX11_verbs 117 = .ok (.goto (-77), 3) := by decide +kernel
theorem dX11_verbs_120 : decode cX11_verbs 120 = .ok (.iload 6, 2) := by decide +kernel
theorem dX11_verbs_122 : decode cX11_verbs 122 = .ok (.ifCond .eq 20, 3) := by decide +kernel
theorem dX11_verbs_125 : decode cX11_verbs 125 = .ok (.iload_n 3, 1) := by decide +kernel
theorem dX11_verbs_126 : decode cX11_verbs 126 = .ok (.iload_n 2, 1) := by decide +kernel
theorem dX11_verbs_127 : decode cX11_verbs 127 = .ok (.if_icmp .ne 8, 3) := by decide +kernel
theorem dX11_verbs_130 : decode cX11_verbs 130 = .ok (.iload 5, 2) := by decide +kernel
theorem dX11_verbs_132 : decode cX11_verbs 132 = .ok (.goto 5, 3) := by decide +kernel
theorem dX11_verbs_135 : decode cX11_verbs 135 = .ok (.iload 4, 2) := by decide +kernel
theorem dX11_verbs_137 : decode cX11_verbs 137 = .ok (.istore 4, 2) := by decide +kernel
theorem dX11_verbs_139 : decode cX11_verbs 139 = .ok (.iinc 3 1, 3) := by decide +kernel
theorem dX11_verbs_142 : decode cX11_verbs 142 = .ok (.iinc 5 1, 3) := by decide +kernel
theorem dX11_verbs_145 : decode cX11_verbs 145 = .ok (.goto (-120), 3) := by decide +kernel
theorem dX11_verbs_148 : decode cX11_verbs 148 = .ok (.iload 4, 2) := by decide +kernel
theorem dX11_verbs_150 : decode cX11_verbs 150 = .ok (.ireturn, 1) := by decide +kernel
theorem dX11_edits_0 : decode cX11_edits 0 = .ok (.aload_n 0, 1) := by decide +kernel
theorem dX11_edits_1 : decode cX11_edits 1 = .ok (.iconst 0, 1) := by decide +kernel
theorem dX11_edits_2 : decode cX11_edits 2 = .ok (.putfield 1, 3) := by decide +kernel
theorem dX11_edits_5 : decode cX11_edits 5 = .ok (.aload_n 0, 1) := by decide +kernel
theorem dX11_edits_6 : decode cX11_edits 6 = .ok (.invokevirtual 168, 3) := by decide +kernel
theorem dX11_edits_9 : decode cX11_edits 9 = .ok (.iload_n 1, 1) := by decide +kernel
theorem dX11_edits_10 : decode cX11_edits 10 = .ok (.iconst 0, 1) := by decide +kernel
theorem dX11_edits_11 : decode cX11_edits 11 = .ok (.aload_n 0, 1) := by decide +kernel
theorem dX11_edits_12 : decode cX11_edits 12 = .ok (.getfield 158, 3) := by decide +kernel
theorem dX11_edits_15 : decode cX11_edits 15 = .ok (.iconst 1, 1) := by decide +kernel
theorem dX11_edits_16 : decode cX11_edits 16 = .ok (.isub, 1) := by decide +kernel
theorem dX11_edits_17 : decode cX11_edits 17 = .ok (.invokestatic 120, 3) := by decide +kernel
theorem dX11_edits_20 : decode cX11_edits 20 = .ok (.ifCond .eq 17, 3) := by decide +kernel
theorem dX11_edits_23 : decode cX11_edits 23 = .ok (.iload_n 2, 1) := by decide +kernel
theorem dX11_edits_24 : decode cX11_edits 24 = .ok (.iconst 0, 1) := by decide +kernel
theorem dX11_edits_25 : decode cX11_edits 25 = .ok (.aload_n 0, 1) := by decide +kernel
theorem dX11_edits_26 : decode cX11_edits 26 = .ok (.getfield 140, 3) := by decide +kernel
theorem dX11_edits_29 : decode cX11_edits 29 = .ok (.iconst 1, 1) := by decide +kernel
theorem dX11_edits_30 : decode cX11_edits 30 = .ok (.isub, 1) := by decide +kernel
theorem dX11_edits_31 : decode cX11_edits 31 = .ok (.invokestatic 120, 3) := by decide +kernel
theorem dX11_edits_34 : decode cX11_edits 34 = .ok (.ifCond .ne 6, 3) := by decide +kernel
theorem dX11_edits_37 : decode cX11_edits 37 = .ok (.bipush (-2), 2) := by decide +kernel
theorem dX11_edits_39 : decode cX11_edits 39 = .ok (.ireturn, 1) := by decide +kernel
theorem dX11_edits_40 : decode cX11_edits 40 = .ok (.aload_n 0, 1) := by decide +kernel
theorem dX11_edits_41 : decode cX11_edits 41 = .ok (.aload_n 0, 1) := by decide +kernel
theorem dX11_edits_42 : decode cX11_edits 42 = .ok (.getfield 63, 3) := by decide +kernel
theorem dX11_edits_45 : decode cX11_edits 45 = .ok (.iload_n 1, 1) := by decide +kernel
theorem dX11_edits_46 : decode cX11_edits 46 = .ok (.iaload, 1) := by decide +kernel
theorem dX11_edits_47 : decode cX11_edits 47 = .ok (.aload_n 0, 1) := by decide +kernel
theorem dX11_edits_48 : decode cX11_edits 48 = .ok (.getfield 66, 3) := by decide +kernel
theorem dX11_edits_51 : decode cX11_edits 51 = .ok (.iload_n 1, 1) := by decide +kernel
theorem dX11_edits_52 : decode cX11_edits 52 = .ok (.iaload, 1) := by decide +kernel
theorem dX11_edits_53 : decode cX11_edits 53 = .ok (.iload_n 2, 1) := by decide +kernel
theorem dX11_edits_54 : decode cX11_edits 54 = .ok (.invokevirtual 214, 3) := by decide +kernel
theorem dX11_edits_57 : decode cX11_edits 57 = .ok (.iconst 0, 1) := by decide +kernel
theorem dX11_edits_58 : decode cX11_edits 58 = .ok (.istore_n 3, 1) := by decide +kernel
theorem dX11_edits_59 : decode cX11_edits 59 = .ok (.iload_n 3, 1) := by decide +kernel
theorem dX11_edits_60 : decode cX11_edits 60 = .ok (.sipush 1053, 3) := by decide +kernel
theorem dX11_edits_63 : decode cX11_edits 63 = .ok (.if_icmp .ge 21, 3) := by decide +kernel
theorem dX11_edits_66 : decode cX11_edits 66 = .ok (.aload_n 0, 1) := by decide +kernel
theorem dX11_edits_67 : decode cX11_edits 67 = .ok (.getfield 114, 3) := by decide +kernel
theorem dX11_edits_70 : decode cX11_edits 70 = .ok (.iload_n 3, 1) := by decide +kernel
theorem dX11_edits_71 : decode cX11_edits 71 = .ok (.aload_n 0, 1) := by decide +kernel
theorem dX11_edits_72 : decode cX11_edits 72 = .ok (.getfield 81, 3) := by decide +kernel
theorem dX11_edits_75 : decode cX11_edits 75 = .ok (.iload_n 3, 1) := by decide +kernel
theorem dX11_edits_76 : decode cX11_edits 76 = .ok (.iaload, 1) := by decide +kernel
theorem dX11_edits_77 : decode cX11_edits 77 = .ok (.iastore, 1) := by decide +kernel
theorem dX11_edits_78 : decode cX11_edits 78 = .ok (.iinc 3 1, 3) := by decide +kernel
theorem dX11_edits_81 : decode cX11_edits 81 = .ok (.goto (-22), 3) := by decide +kernel
theorem dX11_edits_84 : decode cX11_edits 84 = .ok (.aload_n 0, 1) := by decide +kernel
theorem dX11_edits_85 : decode cX11_edits 85 = .ok (.aload_n 0, 1) := by decide +kernel
theorem dX11_edits_86 : decode cX11_edits 86 = .ok (.getfield 66, 3) := by decide +kernel
theorem dX11_edits_89 : decode cX11_edits 89 = .ok (.iload_n 1, 1) := by decide +kernel
theorem dX11_edits_90 : decode cX11_edits 90 = .ok (.iaload, 1) := by decide +kernel
theorem dX11_edits_91 : decode cX11_edits 91 = .ok (.putfield 117, 3) := by decide +kernel
theorem dX11_edits_94 : decode cX11_edits 94 = .ok (.aload_n 0, 1) := by decide +kernel
theorem dX11_edits_95 : decode cX11_edits 95 = .ok (.aload_n 0, 1) := by decide +kernel
theorem dX11_edits_96 : decode cX11_edits 96 = .ok (.getfield 30, 3) := by decide +kernel
theorem dX11_edits_99 : decode cX11_edits 99 = .ok (.aload_n 0, 1) := by decide +kernel
theorem dX11_edits_100 : decode cX11_edits 100 = .ok (.getfield 201, 3) := by decide +kernel
theorem dX11_edits_103 : decode cX11_edits 103 = .ok (.iaload, 1) := by decide +kernel
theorem dX11_edits_104 : decode cX11_edits 104 = .ok (.putfield 260, 3) := by decide +kernel
theorem dX11_edits_107 : decode cX11_edits 107 = .ok (.aload_n 0, 1) := by decide +kernel
theorem dX11_edits_108 : decode cX11_edits 108 = .ok (.getfield 208, 3) := by decide +kernel
theorem dX11_edits_111 : decode cX11_edits 111 = .ok (.ireturn, 1) := by decide +kernel
theorem dX11_cell_0 : decode cX11_cell 0 = .ok (.aload_n 0, 1) := by decide +kernel
theorem dX11_cell_1 : decode cX11_cell 1 = .ok (.iconst 0, 1) := by decide +kernel
theorem dX11_cell_2 : decode cX11_cell 2 = .ok (.putfield 1, 3) := by decide +kernel
theorem dX11_cell_5 : decode cX11_cell 5 = .ok (.aload_n 0, 1) := by decide +kernel
theorem dX11_cell_6 : decode cX11_cell 6 = .ok (.getfield 117, 3) := by decide +kernel
theorem dX11_cell_9 : decode cX11_cell 9 = .ok (.iconst (-1), 1) := by decide +kernel
theorem dX11_cell_10 : decode cX11_cell 10 = .ok (.if_icmp .eq 27, 3) := by decide +kernel
theorem dX11_cell_13 : decode cX11_cell 13 = .ok (.iload_n 1, 1) := by decide +kernel
theorem dX11_cell_14 : decode cX11_cell 14 = .ok (.iconst 0, 1) := by decide +kernel
theorem dX11_cell_15 : decode cX11_cell 15 = .ok (.aload_n 0, 1) := by decide +kernel
theorem dX11_cell_16 : decode cX11_cell 16 = .ok (.getfield 117, 3) := by decide +kernel
theorem dX11_cell_19 : decode cX11_cell 19 = .ok (.invokestatic 120, 3) := by decide +kernel
theorem dX11_cell_22 : decode cX11_cell 22 = .ok (.ifCond .eq 15, 3) := by decide +kernel
theorem dX11_cell_25 : decode cX11_cell 25 = .ok (.iload_n 2, 1) := by decide +kernel
theorem dX11_cell_26 : decode cX11_cell 26 = .ok (.iconst 0, 1) := by decide +kernel
theorem dX11_cell_27 : decode cX11_cell 27 = .ok (.aload_n 0, 1) := by decide +kernel
theorem dX11_cell_28 : decode cX11_cell 28 = .ok (.getfield 260, 3) := by decide +kernel
theorem dX11_cell_31 : decode cX11_cell 31 = .ok (.invokestatic 120, 3) := by decide +kernel
theorem dX11_cell_34 : decode cX11_cell 34 = .ok (.ifCond .ne 10, 3) := by decide +kernel
theorem dX11_cell_37 : decode cX11_cell 37 = .ok (.aload_n 0, 1) := by decide +kernel
theorem dX11_cell_38 : decode cX11_cell 38 = .ok (.iconst 1, 1) := by decide +kernel
theorem dX11_cell_39 : decode cX11_cell 39 = .ok (.putfield 1, 3) := by decide +kernel
theorem dX11_cell_42 : decode cX11_cell 42 = .ok (.iconst 0, 1) := by decide +kernel
theorem dX11_cell_43 : decode cX11_cell 43 = .ok (.ireturn, 1) := by decide +kernel
theorem dX11_cell_44 : decode cX11_cell 44 = .ok (.aload_n 0, 1) := by decide +kernel
theorem dX11_cell_45 : decode cX11_cell 45 = .ok (.getfield 114, 3) := by decide +kernel
theorem dX11_cell_48 : decode cX11_cell 48 = .ok (.bipush 13, 2) := by decide +kernel
theorem dX11_cell_50 : decode cX11_cell 50 = .ok (.iload_n 1, 1) := by decide +kernel
theorem dX11_cell_51 : decode cX11_cell 51 = .ok (.imul, 1) := by decide +kernel
theorem dX11_cell_52 : decode cX11_cell 52 = .ok (.iload_n 2, 1) := by decide +kernel
theorem dX11_cell_53 : decode cX11_cell 53 = .ok (.iadd, 1) := by decide +kernel
theorem dX11_cell_54 : decode cX11_cell 54 = .ok (.iaload, 1) := by decide +kernel
theorem dX11_cell_55 : decode cX11_cell 55 = .ok (.ireturn, 1) := by decide +kernel
theorem dX11_put_0 : decode cX11_put 0 = .ok (.iconst 0, 1) := by decide +kernel
theorem dX11_put_1 : decode cX11_put 1 = .ok (.istore_n 2, 1) := by decide +kernel
theorem dX11_put_2 : decode cX11_put 2 = .ok (.iconst (-1), 1) := by decide +kernel
theorem dX11_put_3 : decode cX11_put 3 = .ok (.istore_n 3, 1) := by decide +kernel
theorem dX11_put_4 : decode cX11_put 4 = .ok (.iconst 0, 1) := by decide +kernel
theorem dX11_put_5 : decode cX11_put 5 = .ok (.istore 4, 2) := by decide +kernel
theorem dX11_put_7 : decode cX11_put 7 = .ok (.iload 4, 2) := by decide +kernel
theorem dX11_put_9 : decode cX11_put 9 = .ok (.aload_n 0, 1) := by decide +kernel
theorem dX11_put_10 : decode cX11_put 10 = .ok (.getfield 223, 3) := by decide +kernel
theorem dX11_put_13 : decode cX11_put 13 = .ok (.if_icmp .ge 41, 3) := by decide +kernel
theorem dX11_put_16 : decode cX11_put 16 = .ok (.aload_n 0, 1) := by decide +kernel
theorem dX11_put_17 : decode cX11_put 17 = .ok (.getfield 102, 3) := by decide +kernel
theorem dX11_put_20 : decode cX11_put 20 = .ok (.iload 4, 2) := by decide +kernel
theorem dX11_put_22 : decode cX11_put 22 = .ok (.iaload, 1) := by decide +kernel
theorem dX11_put_23 : decode cX11_put 23 = .ok (.aload_n 0, 1) := by decide +kernel
theorem dX11_put_24 : decode cX11_put 24 = .ok (.getfield 45, 3) := by decide +kernel
theorem dX11_put_27 : decode cX11_put 27 = .ok (.bipush 8, 2) := by decide +kernel
theorem dX11_put_29 : decode cX11_put 29 = .ok (.iaload, 1) := by decide +kernel
theorem dX11_put_30 : decode cX11_put 30 = .ok (.if_icmp .lt 18, 3) := by decide +kernel
theorem dX11_put_33 : decode cX11_put 33 = .ok (.iload_n 2, 1) := by decide +kernel
theorem dX11_put_34 : decode cX11_put 34 = .ok (.iload_n 1, 1) := by decide +kernel
theorem dX11_put_35 : decode cX11_put 35 = .ok (.if_icmp .ne 8, 3) := by decide +kernel
theorem dX11_put_38 : decode cX11_put 38 = .ok (.iload 4, 2) := by decide +kernel
theorem dX11_put_40 : decode cX11_put 40 = .ok (.goto 4, 3) := by decide +kernel
theorem dX11_put_43 : decode cX11_put 43 = .ok (.iload_n 3, 1) := by decide +kernel
theorem dX11_put_44 : decode cX11_put 44 = .ok (.istore_n 3, 1) := by decide +kernel
theorem dX11_put_45 : decode cX11_put 45 = .ok (.iinc 2 1, 3) := by decide +kernel
theorem dX11_put_48 : decode cX11_put 48 = .ok (.iinc 4 1, 3) := by decide +kernel
theorem dX11_put_51 : decode cX11_put 51 = .ok (.goto (-44), 3) := by decide +kernel
theorem dX11_put_54 : decode cX11_put 54 = .ok (.iload_n 3, 1) := by decide +kernel
theorem dX11_put_55 : decode cX11_put 55 = .ok (.ireturn, 1) := by decide +kernel
theorem dX11_forward_0 : decode cX11_forward 0 = .ok (.aload_n 0, 1) := by decide +kernel
theorem dX11_forward_1 : decode cX11_forward 1 = .ok (.iconst 0, 1) := by decide +kernel
theorem dX11_forward_2 : decode cX11_forward 2 = .ok (.putfield 1, 3) := by decide +kernel
theorem dX11_forward_5 : decode cX11_forward 5 = .ok (.iconst 0, 1) := by decide +kernel
theorem dX11_forward_6 : decode cX11_forward 6 = .ok (.istore_n 1, 1) := by decide +kernel
theorem dX11_forward_7 : decode cX11_forward 7 = .ok (.iconst 0, 1) := by decide +kernel
theorem dX11_forward_8 : decode cX11_forward 8 = .ok (.istore_n 2, 1) := by decide +kernel
theorem dX11_forward_9 : decode cX11_forward 9 = .ok (.iload_n 2, 1) := by decide +kernel
theorem dX11_forward_10 : decode cX11_forward 10 = .ok (.aload_n 0, 1) := by decide +kernel
theorem dX11_forward_11 : decode cX11_forward 11 = .ok (.getfield 223, 3) := by decide +kernel
theorem dX11_forward_14 : decode cX11_forward 14 = .ok (.if_icmp .ge 33, 3) := by decide +kernel
theorem dX11_forward_17 : decode cX11_forward 17 = .ok (.iload_n 1, 1) := by decide +kernel
theorem dX11_forward_18 : decode cX11_forward 18 = .ok (.aload_n 0, 1) := by decide +kernel
theorem dX11_forward_19 : decode cX11_forward 19 = .ok (.getfield 102, 3) := by decide +kernel
theorem dX11_forward_22 : decode cX11_forward 22 = .ok (.iload_n 2, 1) := by decide +kernel
theorem dX11_forward_23 : decode cX11_forward 23 = .ok (.iaload, 1) := by decide +kernel
theorem dX11_forward_24 : decode cX11_forward 24 = .ok (.aload_n 0, 1) := by decide +kernel
theorem dX11_forward_25 : decode cX11_forward 25 = .ok (.getfield 45, 3) := by decide +kernel
theorem dX11_forward_28 : decode cX11_forward 28 = .ok (.bipush 8, 2) := by decide +kernel
theorem dX11_forward_30 : decode cX11_forward 30 = .ok (.iaload, 1) := by decide +kernel
theorem dX11_forward_31 : decode cX11_forward 31 = .ok (.if_icmp .lt 7, 3) := by decide +kernel
theorem dX11_forward_34 : decode cX11_forward 34 = .ok (.iconst 1, 1) := by decide +kernel
theorem dX11_forward_35 : decode cX11_forward 35 = .ok (.goto 4, 3) := by decide +kernel
theorem dX11_forward_38 : decode cX11_forward 38 = .ok (.iconst 0, 1) := by decide +kernel
theorem dX11_forward_39 : decode cX11_forward 39 = .ok (.iadd, 1) := by decide +kernel
theorem dX11_forward_40 : decode cX11_forward 40 = .ok (.istore_n 1, 1) := by decide +kernel
theorem dX11_forward_41 : decode cX11_forward 41 = .ok (.iinc 2 1, 3) := by decide +kernel
theorem dX11_forward_44 : decode cX11_forward 44 = .ok (.goto (-35), 3) := by decide +kernel
theorem dX11_forward_47 : decode cX11_forward 47 = .ok (.iload_n 1, 1) := by decide +kernel
theorem dX11_forward_48 : decode cX11_forward 48 = .ok (.ireturn, 1) := by decide +kernel
theorem dX11_pair_0 : decode cX11_pair 0 = .ok (.aload_n 0, 1) := by decide +kernel
theorem dX11_pair_1 : decode cX11_pair 1 = .ok (.iconst 0, 1) := by decide +kernel
theorem dX11_pair_2 : decode cX11_pair 2 = .ok (.putfield 1, 3) := by decide +kernel
theorem dX11_pair_5 : decode cX11_pair 5 = .ok (.aload_n 0, 1) := by decide +kernel
theorem dX11_pair_6 : decode cX11_pair 6 = .ok (.iload_n 1, 1) := by decide +kernel
theorem dX11_pair_7 : decode cX11_pair 7 = .ok (.invokevirtual 263, 3) := by decide +kernel
theorem dX11_pair_10 : decode cX11_pair 10 = .ok (.istore_n 3, 1) := by decide +kernel
theorem dX11_pair_11 : decode cX11_pair 11 = .ok (.iload_n 3, 1) := by decide +kernel
theorem dX11_pair_12 : decode cX11_pair 12 = .ok (.iconst (-1), 1) := by decide +kernel
theorem dX11_pair_13 : decode cX11_pair 13 = .ok (.if_icmp .eq 19, 3) := by decide +kernel
theorem dX11_pair_16 : decode cX11_pair 16 = .ok (.iload_n 2, 1) := by decide +kernel
theorem dX11_pair_17 : decode cX11_pair 17 = .ok (.ifCond .lt 15, 3) := by decide +kernel
theorem dX11_pair_20 : decode cX11_pair 20 = .ok (.iload_n 2, 1) := by decide +kernel
theorem dX11_pair_21 : decode cX11_pair 21 = .ok (.iconst 2, 1) := by decide +kernel
theorem dX11_pair_22 : decode cX11_pair 22 = .ok (.aload_n 0, 1) := by decide +kernel
theorem dX11_pair_23 : decode cX11_pair 23 = .ok (.getfield 96, 3) := by decide +kernel
theorem dX11_pair_26 : decode cX11_pair 26 = .ok (.iload_n 3, 1) := by decide +kernel
theorem dX11_pair_27 : decode cX11_pair 27 = .ok (.iaload, 1) := by decide +kernel
theorem dX11_pair_28 : decode cX11_pair 28 = .ok (.iadd, 1) := by decide +kernel
theorem dX11_pair_29 : decode cX11_pair 29 = .ok (.if_icmp .le 6, 3) := by decide +kernel
theorem dX11_pair_32 : decode cX11_pair 32 = .ok (.bipush (-2), 2) := by decide +kernel
theorem dX11_pair_34 : decode cX11_pair 34 = .ok (.ireturn, 1) := by decide +kernel
theorem dX11_pair_35 : decode cX11_pair 35 = .ok (.iload_n 2, 1) := by decide +kernel
theorem dX11_pair_36 : decode cX11_pair 36 = .ok (.ifCond .ne 12, 3) := by decide +kernel
theorem dX11_pair_39 : decode cX11_pair 39 = .ok (.aload_n 0, 1) := by decide +kernel
theorem dX11_pair_40 : decode cX11_pair 40 = .ok (.getfield 99, 3) := by decide +kernel
theorem dX11_pair_43 : decode cX11_pair 43 = .ok (.iload_n 3, 1) := by decide +kernel
theorem dX11_pair_44 : decode cX11_pair 44 = .ok (.iaload, 1) := by decide +kernel
theorem dX11_pair_45 : decode cX11_pair 45 = .ok (.goto 47, 3) := by decide +kernel
theorem dX11_pair_48 : decode cX11_pair 48 = .ok (.iload_n 2, 1) := by decide +kernel
theorem dX11_pair_49 : decode cX11_pair 49 = .ok (.iconst 1, 1) := by decide +kernel
theorem dX11_pair_50 : decode cX11_pair 50 = .ok (.if_icmp .ne 12, 3) := by decide +kernel
theorem dX11_pair_53 : decode cX11_pair 53 = .ok (.aload_n 0, 1) := by decide +kernel
theorem dX11_pair_54 : decode cX11_pair 54 = .ok (.getfield 102, 3) := by decide +kernel
theorem dX11_pair_57 : decode cX11_pair 57 = .ok (.iload_n 3, 1) := by decide +kernel
theorem dX11_pair_58 : decode cX11_pair 58 = .ok (.iaload, 1) := by decide +kernel
theorem dX11_pair_59 : decode cX11_pair 59 = .ok (.goto 33, 3) := by decide +kernel
theorem dX11_pair_62 : decode cX11_pair 62 = .ok (.iload_n 2, 1) := by decide +kernel
theorem dX11_pair_63 : decode cX11_pair 63 = .ok (.iconst 2, 1) := by decide +kernel
theorem dX11_pair_64 : decode cX11_pair 64 = .ok (.if_icmp .ne 12, 3) := by decide +kernel
theorem dX11_pair_67 : decode cX11_pair 67 = .ok (.aload_n 0, 1) := by decide +kernel
theorem dX11_pair_68 : decode cX11_pair 68 = .ok (.getfield 96, 3) := by decide +kernel
theorem dX11_pair_71 : decode cX11_pair 71 = .ok (.iload_n 3, 1) := by decide +kernel
theorem dX11_pair_72 : decode cX11_pair 72 = .ok (.iaload, 1) := by decide +kernel
theorem dX11_pair_73 : decode cX11_pair 73 = .ok (.goto 19, 3) := by decide +kernel
theorem dX11_pair_76 : decode cX11_pair 76 = .ok (.aload_n 0, 1) := by decide +kernel
theorem dX11_pair_77 : decode cX11_pair 77 = .ok (.getfield 93, 3) := by decide +kernel
theorem dX11_pair_80 : decode cX11_pair 80 = .ok (.bipush 12, 2) := by decide +kernel
theorem dX11_pair_82 : decode cX11_pair 82 = .ok (.iload_n 3, 1) := by decide +kernel
theorem dX11_pair_83 : decode cX11_pair 83 = .ok (.imul, 1) := by decide +kernel
theorem dX11_pair_84 : decode cX11_pair 84 = .ok (.iload_n 2, 1) := by decide +kernel
theorem dX11_pair_85 : decode cX11_pair 85 = .ok (.iadd, 1) := by decide +kernel
theorem dX11_pair_86 : decode cX11_pair 86 = .ok (.iconst 3, 1) := by decide +kernel
theorem dX11_pair_87 : decode cX11_pair 87 = .ok (.isub, 1) := by decide +kernel
theorem dX11_pair_88 : decode cX11_pair 88 = .ok (.iaload, 1) := by decide +kernel
theorem dX11_pair_89 : decode cX11_pair 89 = .ok (.bipush 97, 2) := by decide +kernel
theorem dX11_pair_91 : decode cX11_pair 91 = .ok (.isub, 1) := by decide +kernel
theorem dX11_pair_92 : decode cX11_pair 92 = .ok (.ireturn, 1) := by decide +kernel
theorem dX11_learn_0 : decode cX11_learn 0 = .ok (.aload_n 0, 1) := by decide +kernel
theorem dX11_learn_1 : decode cX11_learn 1 = .ok (.iconst 0, 1) := by decide +kernel
theorem dX11_learn_2 : decode cX11_learn 2 = .ok (.putfield 1, 3) := by decide +kernel
theorem dX11_learn_5 : decode cX11_learn 5 = .ok (.aload_n 0, 1) := by decide +kernel
theorem dX11_learn_6 : decode cX11_learn 6 = .ok (.iload_n 1, 1) := by decide +kernel
theorem dX11_learn_7 : decode cX11_learn 7 = .ok (.invokevirtual 263, 3) := by decide +kernel
theorem dX11_learn_10 : decode cX11_learn 10 = .ok (.istore_n 2, 1) := by decide +kernel
theorem dX11_learn_11 : decode cX11_learn 11 = .ok (.iload_n 2, 1) := by decide +kernel
theorem dX11_learn_12 : decode cX11_learn 12 = .ok (.iconst (-1), 1) := by decide +kernel
theorem dX11_learn_13 : decode cX11_learn 13 = .ok (.if_icmp .ne 6, 3) := by decide +kernel
theorem dX11_learn_16 : decode cX11_learn 16 = .ok (.bipush (-2), 2) := by decide +kernel
theorem dX11_learn_18 : decode cX11_learn 18 = .ok (.ireturn, 1) := by decide +kernel
theorem dX11_learn_19 : decode cX11_learn 19 = .ok (.aload_n 0, 1) := by decide +kernel
theorem dX11_learn_20 : decode cX11_learn 20 = .ok (.getfield 99, 3) := by decide +kernel
theorem dX11_learn_23 : decode cX11_learn 23 = .ok (.iload_n 2, 1) := by decide +kernel
theorem dX11_learn_24 : decode cX11_learn 24 = .ok (.iaload, 1) := by decide +kernel
theorem dX11_learn_25 : decode cX11_learn 25 = .ok (.istore_n 3, 1) := by decide +kernel
theorem dX11_learn_26 : decode cX11_learn 26 = .ok (.aload_n 0, 1) := by decide +kernel
theorem dX11_learn_27 : decode cX11_learn 27 = .ok (.getfield 96, 3) := by decide +kernel
theorem dX11_learn_30 : decode cX11_learn 30 = .ok (.iload_n 2, 1) := by decide +kernel
theorem dX11_learn_31 : decode cX11_learn 31 = .ok (.iaload, 1) := by decide +kernel
theorem dX11_learn_32 : decode cX11_learn 32 = .ok (.istore 4, 2) := by decide +kernel
theorem dX11_learn_34 : decode cX11_learn 34 = .ok (.aload_n 0, 1) := by decide +kernel
theorem dX11_learn_35 : decode cX11_learn 35 = .ok (.aload_n 0, 1) := by decide +kernel
theorem dX11_learn_36 : decode cX11_learn 36 = .ok (.getfield 93, 3) := by decide +kernel
theorem dX11_learn_39 : decode cX11_learn 39 = .ok (.bipush 12, 2) := by decide +kernel
theorem dX11_learn_41 : decode cX11_learn 41 = .ok (.iload_n 2, 1) := by decide +kernel
theorem dX11_learn_42 : decode cX11_learn 42 = .ok (.imul, 1) := by decide +kernel
theorem dX11_learn_43 : decode cX11_learn 43 = .ok (.iload 4, 2) := by decide +kernel
theorem dX11_learn_45 : decode cX11_learn 45 = .ok (.invokevirtual 136, 3) := by decide +kernel
theorem dX11_learn_48 : decode cX11_learn 48 = .ok (.iconst (-1), 1) := by decide +kernel
theorem dX11_learn_49 : decode cX11_learn 49 = .ok (.if_icmp .eq 6, 3) := by decide +kernel
theorem dX11_learn_52 : decode cX11_learn 52 = .ok (.bipush (-3), 2) := by decide +kernel
theorem dX11_learn_54 : decode cX11_learn 54 = .ok (.ireturn, 1) := by decide +kernel
theorem dX11_learn_55 : decode cX11_learn 55 = .ok (.aload_n 0, 1) := by decide +kernel
theorem dX11_learn_56 : decode cX11_learn 56 = .ok (.getfield 124, 3) := by decide +kernel
theorem dX11_learn_59 : decode cX11_learn 59 = .ok (.bipush 90, 2) := by decide +kernel
theorem dX11_learn_61 : decode cX11_learn 61 = .ok (.if_icmp .ne 6, 3) := by decide +kernel
theorem dX11_learn_64 : decode cX11_learn 64 = .ok (.bipush (-4), 2) := by decide +kernel
theorem dX11_learn_66 : decode cX11_learn 66 = .ok (.ireturn, 1) := by decide +kernel
theorem dX11_learn_67 : decode cX11_learn 67 = .ok (.aload_n 0, 1) := by decide +kernel
theorem dX11_learn_68 : decode cX11_learn 68 = .ok (.aload_n 0, 1) := by decide +kernel
theorem dX11_learn_69 : decode cX11_learn 69 = .ok (.getfield 93, 3) := by decide +kernel
theorem dX11_learn_72 : decode cX11_learn 72 = .ok (.bipush 12, 2) := by decide +kernel
theorem dX11_learn_74 : decode cX11_learn 74 = .ok (.iload_n 2, 1) := by decide +kernel
theorem dX11_learn_75 : decode cX11_learn 75 = .ok (.imul, 1) := by decide +kernel
theorem dX11_learn_76 : decode cX11_learn 76 = .ok (.iload 4, 2) := by decide +kernel
theorem dX11_learn_78 : decode cX11_learn 78 = .ok (.iload_n 3, 1) := by decide +kernel
theorem dX11_learn_79 : decode cX11_learn 79 = .ok (.invokevirtual 143, 3) := by decide +kernel
theorem dX11_learn_82 : decode cX11_learn 82 = .ok (.iconst 0, 1) := by decide +kernel
theorem dX11_learn_83 : decode cX11_learn 83 = .ok (.istore 5, 2) := by decide +kernel
theorem dX11_learn_85 : decode cX11_learn 85 = .ok (.iconst 0, 1) := by decide +kernel
theorem dX11_learn_86 : decode cX11_learn 86 = .ok (.istore 6, 2) := by decide +kernel
theorem dX11_learn_88 : decode cX11_learn 88 = .ok (.iload 6, 2) := by decide +kernel
theorem dX11_learn_90 : decode cX11_learn 90 = .ok (.aload_n 0, 1) := by decide +kernel
theorem dX11_learn_91 : decode cX11_learn 91 = .ok (.getfield 223, 3) := by decide +kernel
theorem dX11_learn_94 : decode cX11_learn 94 = .ok (.if_icmp .ge 186, 3) := by decide +kernel
theorem dX11_learn_97 : decode cX11_learn 97 = .ok (.aload_n 0, 1) := by decide +kernel
theorem dX11_learn_98 : decode cX11_learn 98 = .ok (.getfield 96, 3) := by decide +kernel
theorem dX11_learn_101 : decode cX11_learn 101 = .ok (.iload 6, 2) := by decide +kernel
theorem dX11_learn_103 : decode cX11_learn 103 = .ok (.iaload, 1) := by decide +kernel
theorem dX11_learn_104 : decode cX11_learn 104 = .ok (.iload 4, 2) := by decide +kernel
theorem dX11_learn_106 : decode cX11_learn 106 = .ok (.if_icmp .ne 7, 3) := by decide +kernel
theorem dX11_learn_109 : decode cX11_learn 109 = .ok (.iconst 1, 1) := by decide +kernel
theorem dX11_learn_110 : decode cX11_learn 110 = .ok (.goto 4, 3) := by decide +kernel
theorem dX11_learn_113 : decode cX11_learn 113 = .ok (.iconst 0, 1) := by decide +kernel
theorem dX11_learn_114 : decode cX11_learn 114 = .ok (.istore 7, 2) := by decide +kernel
theorem dX11_learn_116 : decode cX11_learn 116 = .ok (.iconst 0, 1) := by decide +kernel
theorem dX11_learn_117 : decode cX11_learn 117 = .ok (.istore 8, 2) := by decide +kernel
theorem dX11_learn_119 : decode cX11_learn 119 = .ok (.iload 8, 2) := by decide +kernel
theorem dX11_learn_121 : decode cX11_learn 121 = .ok (.iload 4, 2) := by decide +kernel
theorem dX11_learn_123 : decode cX11_learn 123 = .ok (.if_icmp .ge 54, 3) := by decide +kernel
theorem dX11_learn_126 : decode cX11_learn 126 = .ok (.iload 7, 2) := by decide +kernel
theorem dX11_learn_128 : decode cX11_learn 128 = .ok (.ifCond .eq 49, 3) := by decide +kernel
theorem dX11_learn_131 : decode cX11_learn 131 = .ok (.aload_n 0, 1) := by decide +kernel
theorem dX11_learn_132 : decode cX11_learn 132 = .ok (.getfield 93, 3) := by decide +kernel
theorem dX11_learn_135 : decode cX11_learn 135 = .ok (.bipush 12, 2) := by decide +kernel
theorem dX11_learn_137 : decode cX11_learn 137 = .ok (.iload 6, 2) := by decide +kernel
theorem dX11_learn_139 : decode cX11_learn 139 = .ok (.imul, 1) := by decide +kernel
theorem dX11_learn_140 : decode cX11_learn 140 = .ok (.iload 8, 2) := by decide +kernel
theorem dX11_learn_142 : decode cX11_learn 142 = .ok (.iadd, 1) := by decide +kernel
theorem dX11_learn_143 : decode cX11_learn 143 = .ok (.iaload, 1) := by decide +kernel
theorem dX11_learn_144 : decode cX11_learn 144 = .ok (.aload_n 0, 1) := by decide +kernel
theorem dX11_learn_145 : decode cX11_learn 145 = .ok (.getfield 27, 3) := by decide +kernel
theorem dX11_learn_148 : decode cX11_learn 148 = .ok (.bipush 12, 2) := by decide +kernel
theorem dX11_learn_150 : decode cX11_learn 150 = .ok (.aload_n 0, 1) := by decide +kernel
theorem dX11_learn_151 : decode cX11_learn 151 = .ok (.getfield 124, 3) := by decide +kernel
theorem dX11_learn_154 : decode cX11_learn 154 = .ok (.iconst 1, 1) := by decide +kernel
theorem dX11_learn_155 : decode cX11_learn 155 = .ok (.isub, 1) := by decide +kernel
theorem dX11_learn_156 : decode cX11_learn 156 = .ok (.imul, 1) := by decide +kernel
theorem dX11_learn_157 : decode cX11_learn 157 = .ok (.iload 8, 2) := by decide +kernel
theorem dX11_learn_159 : decode cX11_learn 159 = .ok (.iadd, 1) := by decide +kernel
theorem dX11_learn_160 : decode cX11_learn 160 = .ok (.iaload, 1) := by decide +kernel
theorem dX11_learn_161 : decode cX11_learn 161 = .ok (.if_icmp .ne 7, 3) := by decide +kernel
theorem dX11_learn_164 : decode cX11_learn 164 = .ok (.iconst 1, 1) := by decide +kernel
theorem dX11_learn_165 : decode cX11_learn 165 = .ok (.goto 4, 3) := by decide +kernel
theorem dX11_learn_168 : decode cX11_learn 168 = .ok (.iconst 0, 1) := by decide +kernel
theorem dX11_learn_169 : decode cX11_learn 169 = .ok (.istore 7, 2) := by decide +kernel
theorem dX11_learn_171 : decode cX11_learn 171 = .ok (.iinc 8 1, 3) := by decide +kernel
theorem dX11_learn_174 : decode cX11_learn 174 = .ok (.goto (-55), 3) := by decide +kernel
theorem dX11_learn_177 : decode cX11_learn 177 = .ok (.iload 7, 2) := by decide +kernel
theorem dX11_learn_179 : decode cX11_learn 179 = .ok (.ifCond .ne 95, 3) := by decide +kernel
theorem dX11_learn_182 : decode cX11_learn 182 = .ok (.iconst 0, 1) := by decide +kernel
theorem dX11_learn_183 : decode cX11_learn 183 = .ok (.istore 8, 2) := by decide +kernel
theorem dX11_learn_185 : decode cX11_learn 185 = .ok (.iload 8, 2) := by decide +kernel
theorem dX11_learn_187 : decode cX11_learn 187 = .ok (.aload_n 0, 1) := by decide +kernel
theorem dX11_learn_188 : decode cX11_learn 188 = .ok (.getfield 96, 3) := by decide +kernel
theorem dX11_learn_191 : decode cX11_learn 191 = .ok (.iload 6, 2) := by decide +kernel
theorem dX11_learn_193 : decode cX11_learn 193 = .ok (.iaload, 1) := by decide +kernel
theorem dX11_learn_194 : decode cX11_learn 194 = .ok (.if_icmp .ge 35, 3) := by decide +kernel
theorem dX11_learn_197 : decode cX11_learn 197 = .ok (.aload_n 0, 1) := by decide +kernel
theorem dX11_learn_198 : decode cX11_learn 198 = .ok (.getfield 93, 3) := by decide +kernel
theorem dX11_learn_201 : decode cX11_learn 201 = .ok (.bipush 12, 2) := by decide +kernel
theorem dX11_learn_203 : decode cX11_learn 203 = .ok (.iload 5, 2) := by decide +kernel
theorem dX11_learn_205 : decode cX11_learn 205 = .ok (.imul, 1) := by decide +kernel
theorem dX11_learn_206 : decode cX11_learn 206 = .ok (.iload 8, 2) := by decide +kernel
theorem dX11_learn_208 : decode cX11_learn 208 = .ok (.iadd, 1) := by decide +kernel
theorem dX11_learn_209 : decode cX11_learn 209 = .ok (.aload_n 0, 1) := by decide +kernel
theorem dX11_learn_210 : decode cX11_learn 210 = .ok (.getfield 93, 3) := by decide +kernel
theorem dX11_learn_213 : decode cX11_learn 213 = .ok (.bipush 12, 2) := by decide +kernel
theorem dX11_learn_215 : decode cX11_learn 215 = .ok (.iload 6, 2) := by decide +kernel
theorem dX11_learn_217 : decode cX11_learn 217 = .ok (.imul, 1) := by decide +kernel
theorem dX11_learn_218 : decode cX11_learn 218 = .ok (.iload 8, 2) := by decide +kernel
theorem dX11_learn_220 : decode cX11_learn 220 = .ok (.iadd, 1) := by decide +kernel
theorem dX11_learn_221 : decode cX11_learn 221 = .ok (.iaload, 1) := by decide +kernel
theorem dX11_learn_222 : decode cX11_learn 222 = .ok (.iastore, 1) := by decide +kernel
theorem dX11_learn_223 : decode cX11_learn 223 = .ok (.iinc 8 1, 3) := by decide +kernel
theorem dX11_learn_226 : decode cX11_learn 226 = .ok (.goto (-41), 3) := by decide +kernel
theorem dX11_learn_229 : decode cX11_learn 229 = .ok (.aload_n 0, 1) := by decide +kernel
theorem dX11_learn_230 : decode cX11_learn 230 = .ok (.getfield 96, 3) := by decide +kernel
theorem dX11_learn_233 : decode cX11_learn 233 = .ok (.iload 5, 2) := by decide +kernel
theorem dX11_learn_235 : decode cX11_learn 235 = .ok (.aload_n 0, 1) := by decide +kernel
theorem dX11_learn_236 : decode cX11_learn 236 = .ok (.getfield 96, 3) := by decide +kernel
theorem dX11_learn_239 : decode cX11_learn 239 = .ok (.iload 6, 2) := by decide +kernel
theorem dX11_learn_241 : decode cX11_learn 241 = .ok (.iaload, 1) := by decide +kernel
theorem dX11_learn_242 : decode cX11_learn 242 = .ok (.iastore, 1) := by decide +kernel
theorem dX11_learn_243 : decode cX11_learn 243 = .ok (.aload_n 0, 1) := by decide +kernel
theorem dX11_learn_244 : decode cX11_learn 244 = .ok (.getfield 99, 3) := by decide +kernel
theorem dX11_learn_247 : decode cX11_learn 247 = .ok (.iload 5, 2) := by decide +kernel
theorem dX11_learn_249 : decode cX11_learn 249 = .ok (.aload_n 0, 1) := by decide +kernel
theorem dX11_learn_250 : decode cX11_learn 250 = .ok (.getfield 99, 3) := by decide +kernel
theorem dX11_learn_253 : decode cX11_learn 253 = .ok (.iload 6, 2) := by decide +kernel
theorem dX11_learn_255 : decode cX11_learn 255 = .ok (.iaload, 1) := by decide +kernel
theorem dX11_learn_256 : decode cX11_learn 256 = .ok (.iastore, 1) := by decide +kernel
theorem dX11_learn_257 : decode cX11_learn 257 = .ok (.aload_n 0, 1) := by decide +kernel
theorem dX11_learn_258 : decode cX11_learn 258 = .ok (.getfield 102, 3) := by decide +kernel
theorem dX11_learn_261 : decode cX11_learn 261 = .ok (.iload 5, 2) := by decide +kernel
theorem dX11_learn_263 : decode cX11_learn 263 = .ok (.aload_n 0, 1) := by decide +kernel
theorem dX11_learn_264 : decode cX11_learn 264 = .ok (.getfield 102, 3) := by decide +kernel
theorem dX11_learn_267 : decode cX11_learn 267 = .ok (.iload 6, 2) := by decide +kernel
theorem dX11_learn_269 : decode cX11_learn 269 = .ok (.iaload, 1) := by decide +kernel
theorem dX11_learn_270 : decode cX11_learn 270 = .ok (.iastore, 1) := by decide +kernel
theorem dX11_learn_271 : decode cX11_learn 271 = .ok (.iinc 5 1, 3) := by decide +kernel
theorem dX11_learn_274 : decode cX11_learn 274 = .ok (.iinc 6 1, 3) := by decide +kernel
theorem dX11_learn_277 : decode cX11_learn 277 = .ok (.goto (-189), 3) := by decide +kernel
theorem dX11_learn_280 : decode cX11_learn 280 = .ok (.aload_n 0, 1) := by decide +kernel
theorem dX11_learn_281 : decode cX11_learn 281 = .ok (.iload 5, 2) := by decide +kernel
theorem dX11_learn_283 : decode cX11_learn 283 = .ok (.putfield 223, 3) := by decide +kernel
theorem dX11_learn_286 : decode cX11_learn 286 = .ok (.iconst 0, 1) := by decide +kernel
theorem dX11_learn_287 : decode cX11_learn 287 = .ok (.istore 6, 2) := by decide +kernel
theorem dX11_learn_289 : decode cX11_learn 289 = .ok (.iconst 0, 1) := by decide +kernel
theorem dX11_learn_290 : decode cX11_learn 290 = .ok (.istore 7, 2) := by decide +kernel
theorem dX11_learn_292 : decode cX11_learn 292 = .ok (.iload 7, 2) := by decide +kernel
theorem dX11_learn_294 : decode cX11_learn 294 = .ok (.aload_n 0, 1) := by decide +kernel
theorem dX11_learn_295 : decode cX11_learn 295 = .ok (.getfield 124, 3) := by decide +kernel
theorem dX11_learn_298 : decode cX11_learn 298 = .ok (.if_icmp .ge 30, 3) := by decide +kernel
theorem dX11_learn_301 : decode cX11_learn 301 = .ok (.iload 6, 2) := by decide +kernel
theorem dX11_learn_303 : decode cX11_learn 303 = .ok (.aload_n 0, 1) := by decide +kernel
theorem dX11_learn_304 : decode cX11_learn 304 = .ok (.getfield 33, 3) := by decide +kernel
theorem dX11_learn_307 : decode cX11_learn 307 = .ok (.iload 7, 2) := by decide +kernel
theorem dX11_learn_309 : decode cX11_learn 309 = .ok (.iaload, 1) := by decide +kernel
theorem dX11_learn_310 : decode cX11_learn 310 = .ok (.iload_n 3, 1) := by decide +kernel
theorem dX11_learn_311 : decode cX11_learn 311 = .ok (.if_icmp .ne 7, 3) := by decide +kernel
theorem dX11_learn_314 : decode cX11_learn 314 = .ok (.iconst 1, 1) := by decide +kernel
theorem dX11_learn_315 : decode cX11_learn 315 = .ok (.goto 4, 3) := by decide +kernel
theorem dX11_learn_318 : decode cX11_learn 318 = .ok (.iconst 0, 1) := by decide +kernel
theorem dX11_learn_319 : decode cX11_learn 319 = .ok (.iadd, 1) := by decide +kernel
theorem dX11_learn_320 : decode cX11_learn 320 = .ok (.istore 6, 2) := by decide +kernel
theorem dX11_learn_322 : decode cX11_learn 322 = .ok (.iinc 7 1, 3) := by decide +kernel
theorem dX11_learn_325 : decode cX11_learn 325 = .ok (.goto (-33), 3) := by decide +kernel
theorem dX11_learn_328 : decode cX11_learn 328 = .ok (.iload 6, 2) := by decide +kernel
theorem dX11_learn_330 : decode cX11_learn 330 = .ok (.ireturn, 1) := by decide +kernel
theorem dX11_count_0 : decode cX11_count 0 = .ok (.aload_n 0, 1) := by decide +kernel
theorem dX11_count_1 : decode cX11_count 1 = .ok (.iconst 0, 1) := by decide +kernel
theorem dX11_count_2 : decode cX11_count 2 = .ok (.putfield 1, 3) := by decide +kernel
theorem dX11_count_5 : decode cX11_count 5 = .ok (.aload_n 0, 1) := by decide +kernel
theorem dX11_count_6 : decode cX11_count 6 = .ok (.invokevirtual 168, 3) := by decide +kernel
theorem dX11_count_9 : decode cX11_count 9 = .ok (.iload_n 1, 1) := by decide +kernel
theorem dX11_count_10 : decode cX11_count 10 = .ok (.ifCond .ne 10, 3) := by decide +kernel
theorem dX11_count_13 : decode cX11_count 13 = .ok (.aload_n 0, 1) := by decide +kernel
theorem dX11_count_14 : decode cX11_count 14 = .ok (.getfield 140, 3) := by decide +kernel
theorem dX11_count_17 : decode cX11_count 17 = .ok (.goto 78, 3) := by decide +kernel
theorem dX11_count_20 : decode cX11_count 20 = .ok (.iload_n 1, 1) := by decide +kernel
theorem dX11_count_21 : decode cX11_count 21 = .ok (.iconst 1, 1) := by decide +kernel
theorem dX11_count_22 : decode cX11_count 22 = .ok (.if_icmp .ne 10, 3) := by decide +kernel
theorem dX11_count_25 : decode cX11_count 25 = .ok (.aload_n 0, 1) := by decide +kernel
theorem dX11_count_26 : decode cX11_count 26 = .ok (.getfield 151, 3) := by decide +kernel
theorem dX11_count_29 : decode cX11_count 29 = .ok (.goto 66, 3) := by decide +kernel
theorem dX11_count_32 : decode cX11_count 32 = .ok (.iload_n 1, 1) := by decide +kernel
theorem dX11_count_33 : decode cX11_count 33 = .ok (.iconst 2, 1) := by decide +kernel
theorem dX11_count_34 : decode cX11_count 34 = .ok (.if_icmp .ne 10, 3) := by decide +kernel
theorem dX11_count_37 : decode cX11_count 37 = .ok (.aload_n 0, 1) := by decide +kernel
theorem dX11_count_38 : decode cX11_count 38 = .ok (.getfield 124, 3) := by decide +kernel
theorem dX11_count_41 : decode cX11_count 41 = .ok (.goto 54, 3) := by decide +kernel
theorem dX11_count_44 : decode cX11_count 44 = .ok (.iload_n 1, 1) := by decide +kernel
theorem dX11_count_45 : decode cX11_count 45 = .ok (.iconst 3, 1) := by decide +kernel
theorem dX11_count_46 : decode cX11_count 46 = .ok (.if_icmp .ne 10, 3) := by decide +kernel
theorem dX11_count_49 : decode cX11_count 49 = .ok (.aload_n 0, 1) := by decide +kernel
theorem dX11_count_50 : decode cX11_count 50 = .ok (.getfield 223, 3) := by decide +kernel
theorem dX11_count_53 : decode cX11_count 53 = .ok (.goto 42, 3) := by decide +kernel
theorem dX11_count_56 : decode cX11_count 56 = .ok (.iload_n 1, 1) := by decide +kernel
theorem dX11_count_57 : decode cX11_count 57 = .ok (.iconst 4, 1) := by decide +kernel
theorem dX11_count_58 : decode cX11_count 58 = .ok (.if_icmp .ne 10, 3) := by decide +kernel
theorem dX11_count_61 : decode cX11_count 61 = .ok (.aload_n 0, 1) := by decide +kernel
theorem dX11_count_62 : decode cX11_count 62 = .ok (.getfield 131, 3) := by decide +kernel
theorem dX11_count_65 : decode cX11_count 65 = .ok (.goto 30, 3) := by decide +kernel
theorem dX11_count_68 : decode cX11_count 68 = .ok (.iload_n 1, 1) := by decide +kernel
theorem dX11_count_69 : decode cX11_count 69 = .ok (.iconst 5, 1) := by decide +kernel
theorem dX11_count_70 : decode cX11_count 70 = .ok (.if_icmp .ne 10, 3) := by decide +kernel
theorem dX11_count_73 : decode cX11_count 73 = .ok (.aload_n 0, 1) := by decide +kernel
theorem dX11_count_74 : decode cX11_count 74 = .ok (.getfield 161, 3) := by decide +kernel
theorem dX11_count_77 : decode cX11_count 77 = .ok (.goto 18, 3) := by decide +kernel
theorem dX11_count_80 : decode cX11_count 80 = .ok (.iload_n 1, 1) := by decide +kernel
theorem dX11_count_81 : decode cX11_count 81 = .ok (.bipush 6, 2) := by decide +kernel
theorem dX11_count_83 : decode cX11_count 83 = .ok (.if_icmp .ne 10, 3) := by decide +kernel
theorem dX11_count_86 : decode cX11_count 86 = .ok (.aload_n 0, 1) := by decide +kernel
theorem dX11_count_87 : decode cX11_count 87 = .ok (.getfield 158, 3) := by decide +kernel
theorem dX11_count_90 : decode cX11_count 90 = .ok (.goto 5, 3) := by decide +kernel
theorem dX11_count_93 : decode cX11_count 93 = .ok (.bipush (-2), 2) := by decide +kernel
theorem dX11_count_95 : decode cX11_count 95 = .ok (.ireturn, 1) := by decide +kernel
theorem dL_cell_0 : decode cL_cell 0 = .ok (.aload_n 3, 1) := by decide +kernel
theorem dL_cell_1 : decode cL_cell 1 = .ok (.iconst 0, 1) := by decide +kernel
theorem dL_cell_2 : decode cL_cell 2 = .ok (.aload_n 0, 1) := by decide +kernel
theorem dL_cell_3 : decode cL_cell 3 = .ok (.iload_n 1, 1) := by decide +kernel
theorem dL_cell_4 : decode cL_cell 4 = .ok (.iload_n 2, 1) := by decide +kernel
theorem dL_cell_5 : decode cL_cell 5 = .ok (.invokevirtual 7, 3) := by decide +kernel
theorem dL_cell_8 : decode cL_cell 8 = .ok (.i2l, 1) := by decide +kernel
theorem dL_cell_9 : decode cL_cell 9 = .ok (.lastore, 1) := by decide +kernel
theorem dL_cell_10 : decode cL_cell 10 = .ok (.goto 7, 3) := by decide +kernel
theorem dL_cell_13 : decode cL_cell 13 = .ok (.astore 4, 2) := by decide +kernel
theorem dL_cell_15 : decode cL_cell 15 = .ok (.iconst 1, 1) := by decide +kernel
theorem dL_cell_16 : decode cL_cell 16 = .ok (.ireturn, 1) := by decide +kernel
theorem dL_cell_17 : decode cL_cell 17 = .ok (.iconst 0, 1) := by decide +kernel
theorem dL_cell_18 : decode cL_cell 18 = .ok (.ireturn, 1) := by decide +kernel
theorem dL_law_0 : decode cL_law 0 = .ok (.new 8, 3) := by decide +kernel
theorem dL_law_3 : decode cL_law 3 = .ok (.dup, 1) := by decide +kernel
theorem dL_law_4 : decode cL_law 4 = .ok (.invokespecial 15, 3) := by decide +kernel
theorem dL_law_7 : decode cL_law 7 = .ok (.astore_n 1, 1) := by decide +kernel
theorem dL_law_8 : decode cL_law 8 = .ok (.new 16, 3) := by decide +kernel
theorem dL_law_11 : decode cL_law 11 = .ok (.dup, 1) := by decide +kernel
theorem dL_law_12 : decode cL_law 12 = .ok (.invokespecial 18, 3) := by decide +kernel
theorem dL_law_15 : decode cL_law 15 = .ok (.astore_n 2, 1) := by decide +kernel
theorem dL_law_16 : decode cL_law 16 = .ok (.iconst 1, 1) := by decide +kernel
theorem dL_law_17 : decode cL_law 17 = .ok (.newarray .long, 2) := by decide +kernel
theorem dL_law_19 : decode cL_law 19 = .ok (.astore_n 3, 1) := by decide +kernel
theorem dL_law_20 : decode cL_law 20 = .ok (.iconst 0, 1) := by decide +kernel
theorem dL_law_21 : decode cL_law 21 = .ok (.istore 4, 2) := by decide +kernel
theorem dL_law_23 : decode cL_law 23 = .ok (.iload 4, 2) := by decide +kernel
theorem dL_law_25 : decode cL_law 25 = .ok (.aload_n 0, 1) := by decide +kernel
theorem dL_law_26 : decode cL_law 26 = .ok (.arraylength, 1) := by decide +kernel
theorem dL_law_27 : decode cL_law 27 = .ok (.iconst 4, 1) := by decide +kernel
theorem dL_law_28 : decode cL_law 28 = .ok (.isub, 1) := by decide +kernel
theorem dL_law_29 : decode cL_law 29 = .ok (.if_icmp .gt 986, 3) := by decide +kernel
theorem dL_law_32 : decode cL_law 32 = .ok (.aload_n 0, 1) := by decide +kernel
theorem dL_law_33 : decode cL_law 33 = .ok (.iload 4, 2) := by decide +kernel
theorem dL_law_35 : decode cL_law 35 = .ok (.iaload, 1) := by decide +kernel
theorem dL_law_36 : decode cL_law 36 = .ok (.bipush 31, 2) := by decide +kernel
theorem dL_law_38 : decode cL_law 38 = .ok (.iand, 1) := by decide +kernel
theorem dL_law_39 : decode cL_law 39 = .ok (.tableswitch 970 0 25 #[117, 186, 211, 264, 301, 354, 379, 416, 453, 490, 503, 528, 565, 578, 603, 640, 653, 678, 703, 728, 765, 802, 870, 883, 920, 945], 117) := by decide +kernel
theorem dL_law_156 : decode cL_law 156 = .ok (.aload_n 1, 1) := by decide +kernel
theorem dL_law_157 : decode cL_law 157 = .ok (.aload_n 0, 1) := by decide +kernel
theorem dL_law_158 : decode cL_law 158 = .ok (.iload 4, 2) := by decide +kernel
theorem dL_law_160 : decode cL_law 160 = .ok (.iconst 1, 1) := by decide +kernel
theorem dL_law_161 : decode cL_law 161 = .ok (.iadd, 1) := by decide +kernel
theorem dL_law_162 : decode cL_law 162 = .ok (.iaload, 1) := by decide +kernel
theorem dL_law_163 : decode cL_law 163 = .ok (.aload_n 0, 1) := by decide +kernel
theorem dL_law_164 : decode cL_law 164 = .ok (.iload 4, 2) := by decide +kernel
theorem dL_law_166 : decode cL_law 166 = .ok (.iconst 2, 1) := by decide +kernel
theorem dL_law_167 : decode cL_law 167 = .ok (.iadd, 1) := by decide +kernel
theorem dL_law_168 : decode cL_law 168 = .ok (.iaload, 1) := by decide +kernel
theorem dL_law_169 : decode cL_law 169 = .ok (.i2l, 1) := by decide +kernel
theorem dL_law_170 : decode cL_law 170 = .ok (.bipush 32, 2) := by decide +kernel
theorem dL_law_172 : decode cL_law 172 = .ok (.lshl, 1) := by decide +kernel
theorem dL_law_173 : decode cL_law 173 = .ok (.aload_n 0, 1) := by decide +kernel
theorem dL_law_174 : decode cL_law 174 = .ok (.iload 4, 2) := by decide +kernel
theorem dL_law_176 : decode cL_law 176 = .ok (.iconst 3, 1) := by decide +kernel
theorem dL_law_177 : decode cL_law 177 = .ok (.iadd, 1) := by decide +kernel
theorem dL_law_178 : decode cL_law 178 = .ok (.iaload, 1) := by decide +kernel
theorem dL_law_179 : decode cL_law 179 = .ok (.i2l, 1) := by decide +kernel
theorem dL_law_180 : decode cL_law 180 = .ok (.ldc2_w 19, 3) := by decide +kernel
theorem dL_law_183 : decode cL_law 183 = .ok (.land, 1) := by decide +kernel
theorem dL_law_184 : decode cL_law 184 = .ok (.lor, 1) := by decide +kernel
theorem dL_law_185 : decode cL_law 185 = .ok (.invokevirtual 21, 3) := by decide +kernel
theorem dL_law_188 : decode cL_law 188 = .ok (.aload_n 2, 1) := by decide +kernel
theorem dL_law_189 : decode cL_law 189 = .ok (.aload_n 0, 1) := by decide +kernel
theorem dL_law_190 : decode cL_law 190 = .ok (.iload 4, 2) := by decide +kernel
theorem dL_law_192 : decode cL_law 192 = .ok (.iconst 1, 1) := by decide +kernel
theorem dL_law_193 : decode cL_law 193 = .ok (.iadd, 1) := by decide +kernel
theorem dL_law_194 : decode cL_law 194 = .ok (.iaload, 1) := by decide +kernel
theorem dL_law_195 : decode cL_law 195 = .ok (.aload_n 0, 1) := by decide +kernel
theorem dL_law_196 : decode cL_law 196 = .ok (.iload 4, 2) := by decide +kernel
theorem dL_law_198 : decode cL_law 198 = .ok (.iconst 2, 1) := by decide +kernel
theorem dL_law_199 : decode cL_law 199 = .ok (.iadd, 1) := by decide +kernel
theorem dL_law_200 : decode cL_law 200 = .ok (.iaload, 1) := by decide +kernel
theorem dL_law_201 : decode cL_law 201 = .ok (.i2l, 1) := by decide +kernel
theorem dL_law_202 : decode cL_law 202 = .ok (.bipush 32, 2) := by decide +kernel
theorem dL_law_204 : decode cL_law 204 = .ok (.lshl, 1) := by decide +kernel
theorem dL_law_205 : decode cL_law 205 = .ok (.aload_n 0, 1) := by decide +kernel
theorem dL_law_206 : decode cL_law 206 = .ok (.iload 4, 2) := by decide +kernel
theorem dL_law_208 : decode cL_law 208 = .ok (.iconst 3, 1) := by decide +kernel
theorem dL_law_209 : decode cL_law 209 = .ok (.iadd, 1) := by decide +kernel
theorem dL_law_210 : decode cL_law 210 = .ok (.iaload, 1) := by decide +kernel
theorem dL_law_211 : decode cL_law 211 = .ok (.i2l, 1) := by decide +kernel
theorem dL_law_212 : decode cL_law 212 = .ok (.ldc2_w 19, 3) := by decide +kernel
theorem dL_law_215 : decode cL_law 215 = .ok (.land, 1) := by decide +kernel
theorem dL_law_216 : decode cL_law 216 = .ok (.lor, 1) := by decide +kernel
theorem dL_law_217 : decode cL_law 217 = .ok (.invokevirtual 25, 3) := by decide +kernel
theorem dL_law_220 : decode cL_law 220 = .ok (.if_icmp .eq 789, 3) := by decide +kernel
theorem dL_law_223 : decode cL_law 223 = .ok (.iconst 0, 1) := by decide +kernel
theorem dL_law_224 : decode cL_law 224 = .ok (.ireturn, 1) := by decide +kernel
theorem dL_law_225 : decode cL_law 225 = .ok (.aload_n 1, 1) := by decide +kernel
theorem dL_law_226 : decode cL_law 226 = .ok (.aload_n 0, 1) := by decide +kernel
theorem dL_law_227 : decode cL_law 227 = .ok (.iload 4, 2) := by decide +kernel
theorem dL_law_229 : decode cL_law 229 = .ok (.iconst 1, 1) := by decide +kernel
theorem dL_law_230 : decode cL_law 230 = .ok (.iadd, 1) := by decide +kernel
theorem dL_law_231 : decode cL_law 231 = .ok (.iaload, 1) := by decide +kernel
theorem dL_law_232 : decode cL_law 232 = .ok (.invokevirtual 26, 3) := by decide +kernel
theorem dL_law_235 : decode cL_law 235 = .ok (.aload_n 2, 1) := by decide +kernel
theorem dL_law_236 : decode cL_law 236 = .ok (.aload_n 0, 1) := by decide +kernel
theorem dL_law_237 : decode cL_law 237 = .ok (.iload 4, 2) := by decide +kernel
theorem dL_law_239 : decode cL_law 239 = .ok (.iconst 1, 1) := by decide +kernel
theorem dL_law_240 : decode cL_law 240 = .ok (.iadd, 1) := by decide +kernel
theorem dL_law_241 : decode cL_law 241 = .ok (.iaload, 1) := by decide +kernel
theorem dL_law_242 : decode cL_law 242 = .ok (.invokevirtual 30, 3) := by decide +kernel
theorem dL_law_245 : decode cL_law 245 = .ok (.if_icmp .eq 764, 3) := by decide +kernel
theorem dL_law_248 : decode cL_law 248 = .ok (.iconst 0, 1) := by decide +kernel
theorem dL_law_249 : decode cL_law 249 = .ok (.ireturn, 1) := by decide +kernel
theorem dL_law_250 : decode cL_law 250 = .ok (.aload_n 1, 1) := by decide +kernel
theorem dL_law_251 : decode cL_law 251 = .ok (.aload_n 0, 1) := by decide +kernel
theorem dL_law_252 : decode cL_law 252 = .ok (.iload 4, 2) := by decide +kernel
theorem dL_law_254 : decode cL_law 254 = .ok (.iconst 1, 1) := by decide +kernel
theorem dL_law_255 : decode cL_law 255 = .ok (.iadd, 1) := by decide +kernel
theorem dL_law_256 : decode cL_law 256 = .ok (.iaload, 1) := by decide +kernel
theorem dL_law_257 : decode cL_law 257 = .ok (.aload_n 0, 1) := by decide +kernel
theorem dL_law_258 : decode cL_law 258 = .ok (.iload 4, 2) := by decide +kernel
theorem dL_law_260 : decode cL_law 260 = .ok (.iconst 2, 1) := by decide +kernel
theorem dL_law_261 : decode cL_law 261 = .ok (.iadd, 1) := by decide +kernel
theorem dL_law_262 : decode cL_law 262 = .ok (.iaload, 1) := by decide +kernel
theorem dL_law_263 : decode cL_law 263 = .ok (.ifCond .eq 7, 3) := by decide +kernel
theorem dL_law_266 : decode cL_law 266 = .ok (.iconst 1, 1) := by decide +kernel
theorem dL_law_267 : decode cL_law 267 = .ok (.goto 4, 3) := by decide +kernel
theorem dL_law_270 : decode cL_law 270 = .ok (.iconst 0, 1) := by decide +kernel
theorem dL_law_271 : decode cL_law 271 = .ok (.invokevirtual 31, 3) := by decide +kernel
theorem dL_law_274 : decode cL_law 274 = .ok (.aload_n 2, 1) := by decide +kernel
theorem dL_law_275 : decode cL_law 275 = .ok (.aload_n 0, 1) := by decide +kernel
theorem dL_law_276 : decode cL_law 276 = .ok (.iload 4, 2) := by decide +kernel
theorem dL_law_278 : decode cL_law 278 = .ok (.iconst 1, 1) := by decide +kernel
theorem dL_law_279 : decode cL_law 279 = .ok (.iadd, 1) := by decide +kernel
theorem dL_law_280 : decode cL_law 280 = .ok (.iaload, 1) := by decide +kernel
theorem dL_law_281 : decode cL_law 281 = .ok (.aload_n 0, 1) := by decide +kernel
theorem dL_law_282 : decode cL_law 282 = .ok (.iload 4, 2) := by decide +kernel
theorem dL_law_284 : decode cL_law 284 = .ok (.iconst 2, 1) := by decide +kernel
theorem dL_law_285 : decode cL_law 285 = .ok (.iadd, 1) := by decide +kernel
theorem dL_law_286 : decode cL_law 286 = .ok (.iaload, 1) := by decide +kernel
theorem dL_law_287 : decode cL_law 287 = .ok (.ifCond .eq 7, 3) := by decide +kernel
theorem dL_law_290 : decode cL_law 290 = .ok (.iconst 1, 1) := by decide +kernel
theorem dL_law_291 : decode cL_law 291 = .ok (.goto 4, 3) := by decide +kernel
theorem dL_law_294 : decode cL_law 294 = .ok (.iconst 0, 1) := by decide +kernel
theorem dL_law_295 : decode cL_law 295 = .ok (.invokevirtual 35, 3) := by decide +kernel
theorem dL_law_298 : decode cL_law 298 = .ok (.if_icmp .eq 711, 3) := by decide +kernel
theorem dL_law_301 : decode cL_law 301 = .ok (.iconst 0, 1) := by decide +kernel
theorem dL_law_302 : decode cL_law 302 = .ok (.ireturn, 1) := by decide +kernel
theorem dL_law_303 : decode cL_law 303 = .ok (.aload_n 1, 1) := by decide +kernel
theorem dL_law_304 : decode cL_law 304 = .ok (.aload_n 0, 1) := by decide +kernel
theorem dL_law_305 : decode cL_law 305 = .ok (.iload 4, 2) := by decide +kernel
theorem dL_law_307 : decode cL_law 307 = .ok (.iconst 1, 1) := by decide +kernel
theorem dL_law_308 : decode cL_law 308 = .ok (.iadd, 1) := by decide +kernel
theorem dL_law_309 : decode cL_law 309 = .ok (.iaload, 1) := by decide +kernel
theorem dL_law_310 : decode cL_law 310 = .ok (.aload_n 0, 1) := by decide +kernel
theorem dL_law_311 : decode cL_law 311 = .ok (.iload 4, 2) := by decide +kernel
theorem dL_law_313 : decode cL_law 313 = .ok (.iconst 2, 1) := by decide +kernel
theorem dL_law_314 : decode cL_law 314 = .ok (.iadd, 1) := by decide +kernel
theorem dL_law_315 : decode cL_law 315 = .ok (.iaload, 1) := by decide +kernel
theorem dL_law_316 : decode cL_law 316 = .ok (.invokevirtual 36, 3) := by decide +kernel
theorem dL_law_319 : decode cL_law 319 = .ok (.aload_n 2, 1) := by decide +kernel
theorem dL_law_320 : decode cL_law 320 = .ok (.aload_n 0, 1) := by decide +kernel
theorem dL_law_321 : decode cL_law 321 = .ok (.iload 4, 2) := by decide +kernel
theorem dL_law_323 : decode cL_law 323 = .ok (.iconst 1, 1) := by decide +kernel
theorem dL_law_324 : decode cL_law 324 = .ok (.iadd, 1) := by decide +kernel
theorem dL_law_325 : decode cL_law 325 = .ok (.iaload, 1) := by decide +kernel
theorem dL_law_326 : decode cL_law 326 = .ok (.aload_n 0, 1) := by decide +kernel
theorem dL_law_327 : decode cL_law 327 = .ok (.iload 4, 2) := by decide +kernel
theorem dL_law_329 : decode cL_law 329 = .ok (.iconst 2, 1) := by decide +kernel
theorem dL_law_330 : decode cL_law 330 = .ok (.iadd, 1) := by decide +kernel
theorem dL_law_331 : decode cL_law 331 = .ok (.iaload, 1) := by decide +kernel
theorem dL_law_332 : decode cL_law 332 = .ok (.invokevirtual 39, 3) := by decide +kernel
theorem dL_law_335 : decode cL_law 335 = .ok (.if_icmp .eq 674, 3) := by decide +kernel
theorem dL_law_338 : decode cL_law 338 = .ok (.iconst 0, 1) := by decide +kernel
theorem dL_law_339 : decode cL_law 339 = .ok (.ireturn, 1) := by decide +kernel
theorem dL_law_340 : decode cL_law 340 = .ok (.aload_n 1, 1) := by decide +kernel
theorem dL_law_341 : decode cL_law 341 = .ok (.aload_n 0, 1) := by decide +kernel
theorem dL_law_342 : decode cL_law 342 = .ok (.iload 4, 2) := by decide +kernel
theorem dL_law_344 : decode cL_law 344 = .ok (.iconst 1, 1) := by decide +kernel
theorem dL_law_345 : decode cL_law 345 = .ok (.iadd, 1) := by decide +kernel
theorem dL_law_346 : decode cL_law 346 = .ok (.iaload, 1) := by decide +kernel
theorem dL_law_347 : decode cL_law 347 = .ok (.aload_n 0, 1) := by decide +kernel
theorem dL_law_348 : decode cL_law 348 = .ok (.iload 4, 2) := by decide +kernel
theorem dL_law_350 : decode cL_law 350 = .ok (.iconst 2, 1) := by decide +kernel
theorem dL_law_351 : decode cL_law 351 = .ok (.iadd, 1) := by decide +kernel
theorem dL_law_352 : decode cL_law 352 = .ok (.iaload, 1) := by decide +kernel
theorem dL_law_353 : decode cL_law 353 = .ok (.ifCond .eq 7, 3) := by decide +kernel
theorem dL_law_356 : decode cL_law 356 = .ok (.iconst 1, 1) := by decide +kernel
theorem dL_law_357 : decode cL_law 357 = .ok (.goto 4, 3) := by decide +kernel
theorem dL_law_360 : decode cL_law 360 = .ok (.iconst 0, 1) := by decide +kernel
theorem dL_law_361 : decode cL_law 361 = .ok (.invokevirtual 40, 3) := by decide +kernel
theorem dL_law_364 : decode cL_law 364 = .ok (.aload_n 2, 1) := by decide +kernel
theorem dL_law_365 : decode cL_law 365 = .ok (.aload_n 0, 1) := by decide +kernel
theorem dL_law_366 : decode cL_law 366 = .ok (.iload 4, 2) := by decide +kernel
theorem dL_law_368 : decode cL_law 368 = .ok (.iconst 1, 1) := by decide +kernel
theorem dL_law_369 : decode cL_law 369 = .ok (.iadd, 1) := by decide +kernel
theorem dL_law_370 : decode cL_law 370 = .ok (.iaload, 1) := by decide +kernel
theorem dL_law_371 : decode cL_law 371 = .ok (.aload_n 0, 1) := by decide +kernel
theorem dL_law_372 : decode cL_law 372 = .ok (.iload 4, 2) := by decide +kernel
theorem dL_law_374 : decode cL_law 374 = .ok (.iconst 2, 1) := by decide +kernel
theorem dL_law_375 : decode cL_law 375 = .ok (.iadd, 1) := by decide +kernel
theorem dL_law_376 : decode cL_law 376 = .ok (.iaload, 1) := by decide +kernel
theorem dL_law_377 : decode cL_law 377 = .ok (.ifCond .eq 7, 3) := by decide +kernel
theorem dL_law_380 : decode cL_law 380 = .ok (.iconst 1, 1) := by decide +kernel
theorem dL_law_381 : decode cL_law 381 = .ok (.goto 4, 3) := by decide +kernel
theorem dL_law_384 : decode cL_law 384 = .ok (.iconst 0, 1) := by decide +kernel
theorem dL_law_385 : decode cL_law 385 = .ok (.invokevirtual 43, 3) := by decide +kernel
theorem dL_law_388 : decode cL_law 388 = .ok (.if_icmp .eq 621, 3) := by decide +kernel
theorem dL_law_391 : decode cL_law 391 = .ok (.iconst 0, 1) := by decide +kernel
theorem dL_law_392 : decode cL_law 392 = .ok (.ireturn, 1) := by decide +kernel
theorem dL_law_393 : decode cL_law 393 = .ok (.aload_n 1, 1) := by decide +kernel
theorem dL_law_394 : decode cL_law 394 = .ok (.aload_n 0, 1) := by decide +kernel
theorem dL_law_395 : decode cL_law 395 = .ok (.iload 4, 2) := by decide +kernel
theorem dL_law_397 : decode cL_law 397 = .ok (.iconst 1, 1) := by decide +kernel
theorem dL_law_398 : decode cL_law 398 = .ok (.iadd, 1) := by decide +kernel
theorem dL_law_399 : decode cL_law 399 = .ok (.iaload, 1) := by decide +kernel
theorem dL_law_400 : decode cL_law 400 = .ok (.invokevirtual 44, 3) := by decide +kernel
theorem dL_law_403 : decode cL_law 403 = .ok (.aload_n 2, 1) := by decide +kernel
theorem dL_law_404 : decode cL_law 404 = .ok (.aload_n 0, 1) := by decide +kernel
theorem dL_law_405 : decode cL_law 405 = .ok (.iload 4, 2) := by decide +kernel
theorem dL_law_407 : decode cL_law 407 = .ok (.iconst 1, 1) := by decide +kernel
theorem dL_law_408 : decode cL_law 408 = .ok (.iadd, 1) := by decide +kernel
theorem dL_law_409 : decode cL_law 409 = .ok (.iaload, 1) := by decide +kernel
theorem dL_law_410 : decode cL_law 410 = .ok (.invokevirtual 47, 3) := by decide +kernel
theorem dL_law_413 : decode cL_law 413 = .ok (.if_icmp .eq 596, 3) := by decide +kernel
theorem dL_law_416 : decode cL_law 416 = .ok (.iconst 0, 1) := by decide +kernel
theorem dL_law_417 : decode cL_law 417 = .ok (.ireturn, 1) := by decide +kernel
theorem dL_law_418 : decode cL_law 418 = .ok (.aload_n 1, 1) := by decide +kernel
theorem dL_law_419 : decode cL_law 419 = .ok (.aload_n 0, 1) := by decide +kernel
theorem dL_law_420 : decode cL_law 420 = .ok (.iload 4, 2) := by decide +kernel
theorem dL_law_422 : decode cL_law 422 = .ok (.iconst 1, 1) := by decide +kernel
theorem dL_law_423 : decode cL_law 423 = .ok (.iadd, 1) := by decide +kernel
theorem dL_law_424 : decode cL_law 424 = .ok (.iaload, 1) := by decide +kernel
theorem dL_law_425 : decode cL_law 425 = .ok (.aload_n 0, 1) := by decide +kernel
theorem dL_law_426 : decode cL_law 426 = .ok (.iload 4, 2) := by decide +kernel
theorem dL_law_428 : decode cL_law 428 = .ok (.iconst 2, 1) := by decide +kernel
theorem dL_law_429 : decode cL_law 429 = .ok (.iadd, 1) := by decide +kernel
theorem dL_law_430 : decode cL_law 430 = .ok (.iaload, 1) := by decide +kernel
theorem dL_law_431 : decode cL_law 431 = .ok (.invokevirtual 48, 3) := by decide +kernel
theorem dL_law_434 : decode cL_law 434 = .ok (.aload_n 2, 1) := by decide +kernel
theorem dL_law_435 : decode cL_law 435 = .ok (.aload_n 0, 1) := by decide +kernel
theorem dL_law_436 : decode cL_law 436 = .ok (.iload 4, 2) := by decide +kernel
theorem dL_law_438 : decode cL_law 438 = .ok (.iconst 1, 1) := by decide +kernel
theorem dL_law_439 : decode cL_law 439 = .ok (.iadd, 1) := by decide +kernel
theorem dL_law_440 : decode cL_law 440 = .ok (.iaload, 1) := by decide +kernel
theorem dL_law_441 : decode cL_law 441 = .ok (.aload_n 0, 1) := by decide +kernel
theorem dL_law_442 : decode cL_law 442 = .ok (.iload 4, 2) := by decide +kernel
theorem dL_law_444 : decode cL_law 444 = .ok (.iconst 2, 1) := by decide +kernel
theorem dL_law_445 : decode cL_law 445 = .ok (.iadd, 1) := by decide +kernel
theorem dL_law_446 : decode cL_law 446 = .ok (.iaload, 1) := by decide +kernel
theorem dL_law_447 : decode cL_law 447 = .ok (.invokevirtual 51, 3) := by decide +kernel
theorem dL_law_450 : decode cL_law 450 = .ok (.if_icmp .eq 559, 3) := by decide +kernel
theorem dL_law_453 : decode cL_law 453 = .ok (.iconst 0, 1) := by decide +kernel
theorem dL_law_454 : decode cL_law 454 = .ok (.ireturn, 1) := by decide +kernel
theorem dL_law_455 : decode cL_law 455 = .ok (.aload_n 1, 1) := by decide +kernel
theorem dL_law_456 : decode cL_law 456 = .ok (.aload_n 0, 1) := by decide +kernel
theorem dL_law_457 : decode cL_law 457 = .ok (.iload 4, 2) := by decide +kernel
theorem dL_law_459 : decode cL_law 459 = .ok (.iconst 1, 1) := by decide +kernel
theorem dL_law_460 : decode cL_law 460 = .ok (.iadd, 1) := by decide +kernel
theorem dL_law_461 : decode cL_law 461 = .ok (.iaload, 1) := by decide +kernel
theorem dL_law_462 : decode cL_law 462 = .ok (.aload_n 0, 1) := by decide +kernel
theorem dL_law_463 : decode cL_law 463 = .ok (.iload 4, 2) := by decide +kernel
theorem dL_law_465 : decode cL_law 465 = .ok (.iconst 2, 1) := by decide +kernel
theorem dL_law_466 : decode cL_law 466 = .ok (.iadd, 1) := by decide +kernel
theorem dL_law_467 : decode cL_law 467 = .ok (.iaload, 1) := by decide +kernel
theorem dL_law_468 : decode cL_law 468 = .ok (.invokevirtual 52, 3) := by decide +kernel
theorem dL_law_471 : decode cL_law 471 = .ok (.aload_n 2, 1) := by decide +kernel
theorem dL_law_472 : decode cL_law 472 = .ok (.aload_n 0, 1) := by decide +kernel
theorem dL_law_473 : decode cL_law 473 = .ok (.iload 4, 2) := by decide +kernel
theorem dL_law_475 : decode cL_law 475 = .ok (.iconst 1, 1) := by decide +kernel
theorem dL_law_476 : decode cL_law 476 = .ok (.iadd, 1) := by decide +kernel
theorem dL_law_477 : decode cL_law 477 = .ok (.iaload, 1) := by decide +kernel
theorem dL_law_478 : decode cL_law 478 = .ok (.aload_n 0, 1) := by decide +kernel
theorem dL_law_479 : decode cL_law 479 = .ok (.iload 4, 2) := by decide +kernel
theorem dL_law_481 : decode cL_law 481 = .ok (.iconst 2, 1) := by decide +kernel
theorem dL_law_482 : decode cL_law 482 = .ok (.iadd, 1) := by decide +kernel
theorem dL_law_483 : decode cL_law 483 = .ok (.iaload, 1) := by decide +kernel
theorem dL_law_484 : decode cL_law 484 = .ok (.invokevirtual 55, 3) := by decide +kernel
theorem dL_law_487 : decode cL_law 487 = .ok (.if_icmp .eq 522, 3) := by decide +kernel
theorem dL_law_490 : decode cL_law 490 = .ok (.iconst 0, 1) := by decide +kernel
theorem dL_law_491 : decode cL_law 491 = .ok (.ireturn, 1) := by decide +kernel
theorem dL_law_492 : decode cL_law 492 = .ok (.aload_n 1, 1) := by decide +kernel
theorem dL_law_493 : decode cL_law 493 = .ok (.aload_n 0, 1) := by decide +kernel
theorem dL_law_494 : decode cL_law 494 = .ok (.iload 4, 2) := by decide +kernel
theorem dL_law_496 : decode cL_law 496 = .ok (.iconst 1, 1) := by decide +kernel
theorem dL_law_497 : decode cL_law 497 = .ok (.iadd, 1) := by decide +kernel
theorem dL_law_498 : decode cL_law 498 = .ok (.iaload, 1) := by decide +kernel
theorem dL_law_499 : decode cL_law 499 = .ok (.aload_n 0, 1) := by decide +kernel
theorem dL_law_500 : decode cL_law 500 = .ok (.iload 4, 2) := by decide +kernel
theorem dL_law_502 : decode cL_law 502 = .ok (.iconst 2, 1) := by decide +kernel
theorem dL_law_503 : decode cL_law 503 = .ok (.iadd, 1) := by decide +kernel
theorem dL_law_504 : decode cL_law 504 = .ok (.iaload, 1) := by decide +kernel
theorem dL_law_505 : decode cL_law 505 = .ok (.invokevirtual 56, 3) := by decide +kernel
theorem dL_law_508 : decode cL_law 508 = .ok (.aload_n 2, 1) := by decide +kernel
theorem dL_law_509 : decode cL_law 509 = .ok (.aload_n 0, 1) := by decide +kernel
theorem dL_law_510 : decode cL_law 510 = .ok (.iload 4, 2) := by decide +kernel
theorem dL_law_512 : decode cL_law 512 = .ok (.iconst 1, 1) := by decide +kernel
theorem dL_law_513 : decode cL_law 513 = .ok (.iadd, 1) := by decide +kernel
theorem dL_law_514 : decode cL_law 514 = .ok (.iaload, 1) := by decide +kernel
theorem dL_law_515 : decode cL_law 515 = .ok (.aload_n 0, 1) := by decide +kernel
theorem dL_law_516 : decode cL_law 516 = .ok (.iload 4, 2) := by decide +kernel
theorem dL_law_518 : decode cL_law 518 = .ok (.iconst 2, 1) := by decide +kernel
theorem dL_law_519 : decode cL_law 519 = .ok (.iadd, 1) := by decide +kernel
theorem dL_law_520 : decode cL_law 520 = .ok (.iaload, 1) := by decide +kernel
theorem dL_law_521 : decode cL_law 521 = .ok (.invokevirtual 59, 3) := by decide +kernel
theorem dL_law_524 : decode cL_law 524 = .ok (.if_icmp .eq 485, 3) := by decide +kernel
theorem dL_law_527 : decode cL_law 527 = .ok (.iconst 0, 1) := by decide +kernel
theorem dL_law_528 : decode cL_law 528 = .ok (.ireturn, 1) := by decide +kernel
theorem dL_law_529 : decode cL_law 529 = .ok (.aload_n 1, 1) := by decide +kernel
theorem dL_law_530 : decode cL_law 530 = .ok (.invokevirtual 60, 3) := by decide +kernel
theorem dL_law_533 : decode cL_law 533 = .ok (.aload_n 2, 1) := by decide +kernel
theorem dL_law_534 : decode cL_law 534 = .ok (.invokevirtual 64, 3) := by decide +kernel
theorem dL_law_537 : decode cL_law 537 = .ok (.if_icmp .eq 472, 3) := by decide +kernel
theorem dL_law_540 : decode cL_law 540 = .ok (.iconst 0, 1) := by decide +kernel
theorem dL_law_541 : decode cL_law 541 = .ok (.ireturn, 1) := by decide +kernel
theorem dL_law_542 : decode cL_law 542 = .ok (.aload_n 1, 1) := by decide +kernel
theorem dL_law_543 : decode cL_law 543 = .ok (.aload_n 0, 1) := by decide +kernel
theorem dL_law_544 : decode cL_law 544 = .ok (.iload 4, 2) := by decide +kernel
theorem dL_law_546 : decode cL_law 546 = .ok (.iconst 1, 1) := by decide +kernel
theorem dL_law_547 : decode cL_law 547 = .ok (.iadd, 1) := by decide +kernel
theorem dL_law_548 : decode cL_law 548 = .ok (.iaload, 1) := by decide +kernel
theorem dL_law_549 : decode cL_law 549 = .ok (.invokevirtual 65, 3) := by decide +kernel
theorem dL_law_552 : decode cL_law 552 = .ok (.aload_n 2, 1) := by decide +kernel
theorem dL_law_553 : decode cL_law 553 = .ok (.aload_n 0, 1) := by decide +kernel
theorem dL_law_554 : decode cL_law 554 = .ok (.iload 4, 2) := by decide +kernel
theorem dL_law_556 : decode cL_law 556 = .ok (.iconst 1, 1) := by decide +kernel
theorem dL_law_557 : decode cL_law 557 = .ok (.iadd, 1) := by decide +kernel
theorem dL_law_558 : decode cL_law 558 = .ok (.iaload, 1) := by decide +kernel
theorem dL_law_559 : decode cL_law 559 = .ok (.invokevirtual 68, 3) := by decide +kernel
theorem dL_law_562 : decode cL_law 562 = .ok (.if_icmp .eq 447, 3) := by decide +kernel
theorem dL_law_565 : decode cL_law 565 = .ok (.iconst 0, 1) := by decide +kernel
theorem dL_law_566 : decode cL_law 566 = .ok (.ireturn, 1) := by decide +kernel
theorem dL_law_567 : decode cL_law 567 = .ok (.aload_n 1, 1) := by decide +kernel
theorem dL_law_568 : decode cL_law 568 = .ok (.aload_n 0, 1) := by decide +kernel
theorem dL_law_569 : decode cL_law 569 = .ok (.iload 4, 2) := by decide +kernel
theorem dL_law_571 : decode cL_law 571 = .ok (.iconst 1, 1) := by decide +kernel
theorem dL_law_572 : decode cL_law 572 = .ok (.iadd, 1) := by decide +kernel
theorem dL_law_573 : decode cL_law 573 = .ok (.iaload, 1) := by decide +kernel
theorem dL_law_574 : decode cL_law 574 = .ok (.aload_n 0, 1) := by decide +kernel
theorem dL_law_575 : decode cL_law 575 = .ok (.iload 4, 2) := by decide +kernel
theorem dL_law_577 : decode cL_law 577 = .ok (.iconst 2, 1) := by decide +kernel
theorem dL_law_578 : decode cL_law 578 = .ok (.iadd, 1) := by decide +kernel
theorem dL_law_579 : decode cL_law 579 = .ok (.iaload, 1) := by decide +kernel
theorem dL_law_580 : decode cL_law 580 = .ok (.invokevirtual 69, 3) := by decide +kernel
theorem dL_law_583 : decode cL_law 583 = .ok (.aload_n 2, 1) := by decide +kernel
theorem dL_law_584 : decode cL_law 584 = .ok (.aload_n 0, 1) := by decide +kernel
theorem dL_law_585 : decode cL_law 585 = .ok (.iload 4, 2) := by decide +kernel
theorem dL_law_587 : decode cL_law 587 = .ok (.iconst 1, 1) := by decide +kernel
theorem dL_law_588 : decode cL_law 588 = .ok (.iadd, 1) := by decide +kernel
theorem dL_law_589 : decode cL_law 589 = .ok (.iaload, 1) := by decide +kernel
theorem dL_law_590 : decode cL_law 590 = .ok (.aload_n 0, 1) := by decide +kernel
theorem dL_law_591 : decode cL_law 591 = .ok (.iload 4, 2) := by decide +kernel
theorem dL_law_593 : decode cL_law 593 = .ok (.iconst 2, 1) := by decide +kernel
theorem dL_law_594 : decode cL_law 594 = .ok (.iadd, 1) := by decide +kernel
theorem dL_law_595 : decode cL_law 595 = .ok (.iaload, 1) := by decide +kernel
theorem dL_law_596 : decode cL_law 596 = .ok (.invokevirtual 72, 3) := by decide +kernel
theorem dL_law_599 : decode cL_law 599 = .ok (.if_icmp .eq 410, 3) := by decide +kernel
theorem dL_law_602 : decode cL_law 602 = .ok (.iconst 0, 1) := by decide +kernel
theorem dL_law_603 : decode cL_law 603 = .ok (.ireturn, 1) := by decide +kernel
theorem dL_law_604 : decode cL_law 604 = .ok (.aload_n 1, 1) := by decide +kernel
theorem dL_law_605 : decode cL_law 605 = .ok (.invokevirtual 73, 3) := by decide +kernel
theorem dL_law_608 : decode cL_law 608 = .ok (.aload_n 2, 1) := by decide +kernel
theorem dL_law_609 : decode cL_law 609 = .ok (.invokevirtual 76, 3) := by decide +kernel
theorem dL_law_612 : decode cL_law 612 = .ok (.if_icmp .eq 397, 3) := by decide +kernel
theorem dL_law_615 : decode cL_law 615 = .ok (.iconst 0, 1) := by decide +kernel
theorem dL_law_616 : decode cL_law 616 = .ok (.ireturn, 1) := by decide +kernel
theorem dL_law_617 : decode cL_law 617 = .ok (.aload_n 1, 1) := by decide +kernel
theorem dL_law_618 : decode cL_law 618 = .ok (.aload_n 0, 1) := by decide +kernel
theorem dL_law_619 : decode cL_law 619 = .ok (.iload 4, 2) := by decide +kernel
theorem dL_law_621 : decode cL_law 621 = .ok (.iconst 1, 1) := by decide +kernel
theorem dL_law_622 : decode cL_law 622 = .ok (.iadd, 1) := by decide +kernel
theorem dL_law_623 : decode cL_law 623 = .ok (.iaload, 1) := by decide +kernel
theorem dL_law_624 : decode cL_law 624 = .ok (.invokevirtual 77, 3) := by decide +kernel
theorem dL_law_627 : decode cL_law 627 = .ok (.aload_n 2, 1) := by decide +kernel
theorem dL_law_628 : decode cL_law 628 = .ok (.aload_n 0, 1) := by decide +kernel
theorem dL_law_629 : decode cL_law 629 = .ok (.iload 4, 2) := by decide +kernel
theorem dL_law_631 : decode cL_law 631 = .ok (.iconst 1, 1) := by decide +kernel
theorem dL_law_632 : decode cL_law 632 = .ok (.iadd, 1) := by decide +kernel
theorem dL_law_633 : decode cL_law 633 = .ok (.iaload, 1) := by decide +kernel
theorem dL_law_634 : decode cL_law 634 = .ok (.invokevirtual 80, 3) := by decide +kernel
theorem dL_law_637 : decode cL_law 637 = .ok (.if_icmp .eq 372, 3) := by decide +kernel
theorem dL_law_640 : decode cL_law 640 = .ok (.iconst 0, 1) := by decide +kernel
theorem dL_law_641 : decode cL_law 641 = .ok (.ireturn, 1) := by decide +kernel
theorem dL_law_642 : decode cL_law 642 = .ok (.aload_n 1, 1) := by decide +kernel
theorem dL_law_643 : decode cL_law 643 = .ok (.aload_n 0, 1) := by decide +kernel
theorem dL_law_644 : decode cL_law 644 = .ok (.iload 4, 2) := by decide +kernel
theorem dL_law_646 : decode cL_law 646 = .ok (.iconst 1, 1) := by decide +kernel
theorem dL_law_647 : decode cL_law 647 = .ok (.iadd, 1) := by decide +kernel
theorem dL_law_648 : decode cL_law 648 = .ok (.iaload, 1) := by decide +kernel
theorem dL_law_649 : decode cL_law 649 = .ok (.aload_n 0, 1) := by decide +kernel
theorem dL_law_650 : decode cL_law 650 = .ok (.iload 4, 2) := by decide +kernel
theorem dL_law_652 : decode cL_law 652 = .ok (.iconst 2, 1) := by decide +kernel
theorem dL_law_653 : decode cL_law 653 = .ok (.iadd, 1) := by decide +kernel
theorem dL_law_654 : decode cL_law 654 = .ok (.iaload, 1) := by decide +kernel
theorem dL_law_655 : decode cL_law 655 = .ok (.invokevirtual 81, 3) := by decide +kernel
theorem dL_law_658 : decode cL_law 658 = .ok (.aload_n 2, 1) := by decide +kernel
theorem dL_law_659 : decode cL_law 659 = .ok (.aload_n 0, 1) := by decide +kernel
theorem dL_law_660 : decode cL_law 660 = .ok (.iload 4, 2) := by decide +kernel
theorem dL_law_662 : decode cL_law 662 = .ok (.iconst 1, 1) := by decide +kernel
theorem dL_law_663 : decode cL_law 663 = .ok (.iadd, 1) := by decide +kernel
theorem dL_law_664 : decode cL_law 664 = .ok (.iaload, 1) := by decide +kernel
theorem dL_law_665 : decode cL_law 665 = .ok (.aload_n 0, 1) := by decide +kernel
theorem dL_law_666 : decode cL_law 666 = .ok (.iload 4, 2) := by decide +kernel
theorem dL_law_668 : decode cL_law 668 = .ok (.iconst 2, 1) := by decide +kernel
theorem dL_law_669 : decode cL_law 669 = .ok (.iadd, 1) := by decide +kernel
theorem dL_law_670 : decode cL_law 670 = .ok (.iaload, 1) := by decide +kernel
theorem dL_law_671 : decode cL_law 671 = .ok (.invokevirtual 84, 3) := by decide +kernel
theorem dL_law_674 : decode cL_law 674 = .ok (.if_icmp .eq 335, 3) := by decide +kernel
theorem dL_law_677 : decode cL_law 677 = .ok (.iconst 0, 1) := by decide +kernel
theorem dL_law_678 : decode cL_law 678 = .ok (.ireturn, 1) := by decide +kernel
theorem dL_law_679 : decode cL_law 679 = .ok (.aload_n 1, 1) := by decide +kernel
theorem dL_law_680 : decode cL_law 680 = .ok (.invokevirtual 85, 3) := by decide +kernel
theorem dL_law_683 : decode cL_law 683 = .ok (.aload_n 2, 1) := by decide +kernel
theorem dL_law_684 : decode cL_law 684 = .ok (.invokevirtual 88, 3) := by decide +kernel
theorem dL_law_687 : decode cL_law 687 = .ok (.if_icmp .eq 322, 3) := by decide +kernel
theorem dL_law_690 : decode cL_law 690 = .ok (.iconst 0, 1) := by decide +kernel
theorem dL_law_691 : decode cL_law 691 = .ok (.ireturn, 1) := by decide +kernel
theorem dL_law_692 : decode cL_law 692 = .ok (.aload_n 1, 1) := by decide +kernel
theorem dL_law_693 : decode cL_law 693 = .ok (.aload_n 0, 1) := by decide +kernel
theorem dL_law_694 : decode cL_law 694 = .ok (.iload 4, 2) := by decide +kernel
theorem dL_law_696 : decode cL_law 696 = .ok (.iconst 1, 1) := by decide +kernel
theorem dL_law_697 : decode cL_law 697 = .ok (.iadd, 1) := by decide +kernel
theorem dL_law_698 : decode cL_law 698 = .ok (.iaload, 1) := by decide +kernel
theorem dL_law_699 : decode cL_law 699 = .ok (.invokevirtual 89, 3) := by decide +kernel
theorem dL_law_702 : decode cL_law 702 = .ok (.aload_n 2, 1) := by decide +kernel
theorem dL_law_703 : decode cL_law 703 = .ok (.aload_n 0, 1) := by decide +kernel
theorem dL_law_704 : decode cL_law 704 = .ok (.iload 4, 2) := by decide +kernel
theorem dL_law_706 : decode cL_law 706 = .ok (.iconst 1, 1) := by decide +kernel
theorem dL_law_707 : decode cL_law 707 = .ok (.iadd, 1) := by decide +kernel
theorem dL_law_708 : decode cL_law 708 = .ok (.iaload, 1) := by decide +kernel
theorem dL_law_709 : decode cL_law 709 = .ok (.invokevirtual 92, 3) := by decide +kernel
theorem dL_law_712 : decode cL_law 712 = .ok (.if_icmp .eq 297, 3) := by decide +kernel
theorem dL_law_715 : decode cL_law 715 = .ok (.iconst 0, 1) := by decide +kernel
theorem dL_law_716 : decode cL_law 716 = .ok (.ireturn, 1) := by decide +kernel
theorem dL_law_717 : decode cL_law 717 = .ok (.aload_n 1, 1) := by decide +kernel
theorem dL_law_718 : decode cL_law 718 = .ok (.aload_n 0, 1) := by decide +kernel
theorem dL_law_719 : decode cL_law 719 = .ok (.iload 4, 2) := by decide +kernel
theorem dL_law_721 : decode cL_law 721 = .ok (.iconst 1, 1) := by decide +kernel
theorem dL_law_722 : decode cL_law 722 = .ok (.iadd, 1) := by decide +kernel
theorem dL_law_723 : decode cL_law 723 = .ok (.iaload, 1) := by decide +kernel
theorem dL_law_724 : decode cL_law 724 = .ok (.invokevirtual 93, 3) := by decide +kernel
theorem dL_law_727 : decode cL_law 727 = .ok (.aload_n 2, 1) := by decide +kernel
theorem dL_law_728 : decode cL_law 728 = .ok (.aload_n 0, 1) := by decide +kernel
theorem dL_law_729 : decode cL_law 729 = .ok (.iload 4, 2) := by decide +kernel
theorem dL_law_731 : decode cL_law 731 = .ok (.iconst 1, 1) := by decide +kernel
theorem dL_law_732 : decode cL_law 732 = .ok (.iadd, 1) := by decide +kernel
theorem dL_law_733 : decode cL_law 733 = .ok (.iaload, 1) := by decide +kernel
theorem dL_law_734 : decode cL_law 734 = .ok (.invokevirtual 96, 3) := by decide +kernel
theorem dL_law_737 : decode cL_law 737 = .ok (.if_icmp .eq 272, 3) := by decide +kernel
theorem dL_law_740 : decode cL_law 740 = .ok (.iconst 0, 1) := by decide +kernel
theorem dL_law_741 : decode cL_law 741 = .ok (.ireturn, 1) := by decide +kernel
theorem dL_law_742 : decode cL_law 742 = .ok (.aload_n 1, 1) := by decide +kernel
theorem dL_law_743 : decode cL_law 743 = .ok (.aload_n 0, 1) := by decide +kernel
theorem dL_law_744 : decode cL_law 744 = .ok (.iload 4, 2) := by decide +kernel
theorem dL_law_746 : decode cL_law 746 = .ok (.iconst 1, 1) := by decide +kernel
theorem dL_law_747 : decode cL_law 747 = .ok (.iadd, 1) := by decide +kernel
theorem dL_law_748 : decode cL_law 748 = .ok (.iaload, 1) := by decide +kernel
theorem dL_law_749 : decode cL_law 749 = .ok (.invokevirtual 97, 3) := by decide +kernel
theorem dL_law_752 : decode cL_law 752 = .ok (.aload_n 2, 1) := by decide +kernel
theorem dL_law_753 : decode cL_law 753 = .ok (.aload_n 0, 1) := by decide +kernel
theorem dL_law_754 : decode cL_law 754 = .ok (.iload 4, 2) := by decide +kernel
theorem dL_law_756 : decode cL_law 756 = .ok (.iconst 1, 1) := by decide +kernel
theorem dL_law_757 : decode cL_law 757 = .ok (.iadd, 1) := by decide +kernel
theorem dL_law_758 : decode cL_law 758 = .ok (.iaload, 1) := by decide +kernel
theorem dL_law_759 : decode cL_law 759 = .ok (.invokevirtual 100, 3) := by decide +kernel
theorem dL_law_762 : decode cL_law 762 = .ok (.if_icmp .eq 247, 3) := by decide +kernel
theorem dL_law_765 : decode cL_law 765 = .ok (.iconst 0, 1) := by decide +kernel
theorem dL_law_766 : decode cL_law 766 = .ok (.ireturn, 1) := by decide +kernel
theorem dL_law_767 : decode cL_law 767 = .ok (.aload_n 1, 1) := by decide +kernel
theorem dL_law_768 : decode cL_law 768 = .ok (.aload_n 0, 1) := by decide +kernel
theorem dL_law_769 : decode cL_law 769 = .ok (.iload 4, 2) := by decide +kernel
theorem dL_law_771 : decode cL_law 771 = .ok (.iconst 1, 1) := by decide +kernel
theorem dL_law_772 : decode cL_law 772 = .ok (.iadd, 1) := by decide +kernel
theorem dL_law_773 : decode cL_law 773 = .ok (.iaload, 1) := by decide +kernel
theorem dL_law_774 : decode cL_law 774 = .ok (.aload_n 0, 1) := by decide +kernel
theorem dL_law_775 : decode cL_law 775 = .ok (.iload 4, 2) := by decide +kernel
theorem dL_law_777 : decode cL_law 777 = .ok (.iconst 2, 1) := by decide +kernel
theorem dL_law_778 : decode cL_law 778 = .ok (.iadd, 1) := by decide +kernel
theorem dL_law_779 : decode cL_law 779 = .ok (.iaload, 1) := by decide +kernel
theorem dL_law_780 : decode cL_law 780 = .ok (.invokevirtual 101, 3) := by decide +kernel
theorem dL_law_783 : decode cL_law 783 = .ok (.aload_n 2, 1) := by decide +kernel
theorem dL_law_784 : decode cL_law 784 = .ok (.aload_n 0, 1) := by decide +kernel
theorem dL_law_785 : decode cL_law 785 = .ok (.iload 4, 2) := by decide +kernel
theorem dL_law_787 : decode cL_law 787 = .ok (.iconst 1, 1) := by decide +kernel
theorem dL_law_788 : decode cL_law 788 = .ok (.iadd, 1) := by decide +kernel
theorem dL_law_789 : decode cL_law 789 = .ok (.iaload, 1) := by decide +kernel
theorem dL_law_790 : decode cL_law 790 = .ok (.aload_n 0, 1) := by decide +kernel
theorem dL_law_791 : decode cL_law 791 = .ok (.iload 4, 2) := by decide +kernel
theorem dL_law_793 : decode cL_law 793 = .ok (.iconst 2, 1) := by decide +kernel
theorem dL_law_794 : decode cL_law 794 = .ok (.iadd, 1) := by decide +kernel
theorem dL_law_795 : decode cL_law 795 = .ok (.iaload, 1) := by decide +kernel
theorem dL_law_796 : decode cL_law 796 = .ok (.invokevirtual 104, 3) := by decide +kernel
theorem dL_law_799 : decode cL_law 799 = .ok (.if_icmp .eq 210, 3) := by decide +kernel
theorem dL_law_802 : decode cL_law 802 = .ok (.iconst 0, 1) := by decide +kernel
theorem dL_law_803 : decode cL_law 803 = .ok (.ireturn, 1) := by decide +kernel
theorem dL_law_804 : decode cL_law 804 = .ok (.aload_n 1, 1) := by decide +kernel
theorem dL_law_805 : decode cL_law 805 = .ok (.aload_n 0, 1) := by decide +kernel
theorem dL_law_806 : decode cL_law 806 = .ok (.iload 4, 2) := by decide +kernel
theorem dL_law_808 : decode cL_law 808 = .ok (.iconst 1, 1) := by decide +kernel
theorem dL_law_809 : decode cL_law 809 = .ok (.iadd, 1) := by decide +kernel
theorem dL_law_810 : decode cL_law 810 = .ok (.iaload, 1) := by decide +kernel
theorem dL_law_811 : decode cL_law 811 = .ok (.aload_n 0, 1) := by decide +kernel
theorem dL_law_812 : decode cL_law 812 = .ok (.iload 4, 2) := by decide +kernel
theorem dL_law_814 : decode cL_law 814 = .ok (.iconst 2, 1) := by decide +kernel
theorem dL_law_815 : decode cL_law 815 = .ok (.iadd, 1) := by decide +kernel
theorem dL_law_816 : decode cL_law 816 = .ok (.iaload, 1) := by decide +kernel
theorem dL_law_817 : decode cL_law 817 = .ok (.invokevirtual 105, 3) := by decide +kernel
theorem dL_law_820 : decode cL_law 820 = .ok (.aload_n 2, 1) := by decide +kernel
theorem dL_law_821 : decode cL_law 821 = .ok (.aload_n 0, 1) := by decide +kernel
theorem dL_law_822 : decode cL_law 822 = .ok (.iload 4, 2) := by decide +kernel
theorem dL_law_824 : decode cL_law 824 = .ok (.iconst 1, 1) := by decide +kernel
theorem dL_law_825 : decode cL_law 825 = .ok (.iadd, 1) := by decide +kernel
theorem dL_law_826 : decode cL_law 826 = .ok (.iaload, 1) := by decide +kernel
theorem dL_law_827 : decode cL_law 827 = .ok (.aload_n 0, 1) := by decide +kernel
theorem dL_law_828 : decode cL_law 828 = .ok (.iload 4, 2) := by decide +kernel
theorem dL_law_830 : decode cL_law 830 = .ok (.iconst 2, 1) := by decide +kernel
theorem dL_law_831 : decode cL_law 831 = .ok (.iadd, 1) := by decide +kernel
theorem dL_law_832 : decode cL_law 832 = .ok (.iaload, 1) := by decide +kernel
theorem dL_law_833 : decode cL_law 833 = .ok (.invokevirtual 108, 3) := by decide +kernel
theorem dL_law_836 : decode cL_law 836 = .ok (.if_icmp .eq 173, 3) := by decide +kernel
theorem dL_law_839 : decode cL_law 839 = .ok (.iconst 0, 1) := by decide +kernel
theorem dL_law_840 : decode cL_law 840 = .ok (.ireturn, 1) := by decide +kernel
theorem dL_law_841 : decode cL_law 841 = .ok (.aload_n 1, 1) := by decide +kernel
theorem dL_law_842 : decode cL_law 842 = .ok (.aload_n 0, 1) := by decide +kernel
theorem dL_law_843 : decode cL_law 843 = .ok (.iload 4, 2) := by decide +kernel
theorem dL_law_845 : decode cL_law 845 = .ok (.iconst 1, 1) := by decide +kernel
theorem dL_law_846 : decode cL_law 846 = .ok (.iadd, 1) := by decide +kernel
theorem dL_law_847 : decode cL_law 847 = .ok (.iaload, 1) := by decide +kernel
theorem dL_law_848 : decode cL_law 848 = .ok (.aload_n 0, 1) := by decide +kernel
theorem dL_law_849 : decode cL_law 849 = .ok (.iload 4, 2) := by decide +kernel
theorem dL_law_851 : decode cL_law 851 = .ok (.iconst 2, 1) := by decide +kernel
theorem dL_law_852 : decode cL_law 852 = .ok (.iadd, 1) := by decide +kernel
theorem dL_law_853 : decode cL_law 853 = .ok (.iaload, 1) := by decide +kernel
theorem dL_law_854 : decode cL_law 854 = .ok (.aload_n 3, 1) := by decide +kernel
theorem dL_law_855 : decode cL_law 855 = .ok (.invokestatic 109, 3) := by decide +kernel
theorem dL_law_858 : decode cL_law 858 = .ok (.istore 5, 2) := by decide +kernel
theorem dL_law_860 : decode cL_law 860 = .ok (.aload_n 2, 1) := by decide +kernel
theorem dL_law_861 : decode cL_law 861 = .ok (.aload_n 0, 1) := by decide +kernel
theorem dL_law_862 : decode cL_law 862 = .ok (.iload 4, 2) := by decide +kernel
theorem dL_law_864 : decode cL_law 864 = .ok (.iconst 1, 1) := by decide +kernel
theorem dL_law_865 : decode cL_law 865 = .ok (.iadd, 1) := by decide +kernel
theorem dL_law_866 : decode cL_law 866 = .ok (.iaload, 1) := by decide +kernel
theorem dL_law_867 : decode cL_law 867 = .ok (.aload_n 0, 1) := by decide +kernel
theorem dL_law_868 : decode cL_law 868 = .ok (.iload 4, 2) := by decide +kernel
theorem dL_law_870 : decode cL_law 870 = .ok (.iconst 2, 1) := by decide +kernel
theorem dL_law_871 : decode cL_law 871 = .ok (.iadd, 1) := by decide +kernel
theorem dL_law_872 : decode cL_law 872 = .ok (.iaload, 1) := by decide +kernel
theorem dL_law_873 : decode cL_law 873 = .ok (.invokevirtual 114, 3) := by decide +kernel
theorem dL_law_876 : decode cL_law 876 = .ok (.istore 6, 2) := by decide +kernel
theorem dL_law_878 : decode cL_law 878 = .ok (.aload_n 2, 1) := by decide +kernel
theorem dL_law_879 : decode cL_law 879 = .ok (.invokevirtual 115, 3) := by decide +kernel
theorem dL_law_882 : decode cL_law 882 = .ok (.iload 5, 2) := by decide +kernel
theorem dL_law_884 : decode cL_law 884 = .ok (.if_icmp .eq 5, 3) := by decide +kernel
theorem dL_law_887 : decode cL_law 887 = .ok (.iconst 0, 1) := by decide +kernel
theorem dL_law_888 : decode cL_law 888 = .ok (.ireturn, 1) := by decide +kernel
theorem dL_law_889 : decode cL_law 889 = .ok (.iload 5, 2) := by decide +kernel
theorem dL_law_891 : decode cL_law 891 = .ok (.ifCond .ne 15, 3) := by decide +kernel
theorem dL_law_894 : decode cL_law 894 = .ok (.aload_n 3, 1) := by decide +kernel
theorem dL_law_895 : decode cL_law 895 = .ok (.iconst 0, 1) := by decide +kernel
theorem dL_law_896 : decode cL_law 896 = .ok (.laload, 1) := by decide +kernel
theorem dL_law_897 : decode cL_law 897 = .ok (.iload 6, 2) := by decide +kernel
theorem dL_law_899 : decode cL_law 899 = .ok (.i2l, 1) := by decide +kernel
theorem dL_law_900 : decode cL_law 900 = .ok (.lcmp, 1) := by decide +kernel
theorem dL_law_901 : decode cL_law 901 = .ok (.ifCond .eq 5, 3) := by decide +kernel
theorem dL_law_904 : decode cL_law 904 = .ok (.iconst 0, 1) := by decide +kernel
theorem dL_law_905 : decode cL_law 905 = .ok (.ireturn, 1) := by decide +kernel
theorem dL_law_906 : decode cL_law 906 = .ok (.goto 103, 3) := by decide +kernel
theorem dL_law_909 : decode cL_law 909 = .ok (.aload_n 1, 1) := by decide +kernel
theorem dL_law_910 : decode cL_law 910 = .ok (.invokevirtual 118, 3) := by decide +kernel
theorem dL_law_913 : decode cL_law 913 = .ok (.aload_n 2, 1) := by decide +kernel
theorem dL_law_914 : decode cL_law 914 = .ok (.invokevirtual 121, 3) := by decide +kernel
theorem dL_law_917 : decode cL_law 917 = .ok (.if_icmp .eq 92, 3) := by decide +kernel
theorem dL_law_920 : decode cL_law 920 = .ok (.iconst 0, 1) := by decide +kernel
theorem dL_law_921 : decode cL_law 921 = .ok (.ireturn, 1) := by decide +kernel
theorem dL_law_922 : decode cL_law 922 = .ok (.aload_n 1, 1) := by decide +kernel
theorem dL_law_923 : decode cL_law 923 = .ok (.aload_n 0, 1) := by decide +kernel
theorem dL_law_924 : decode cL_law 924 = .ok (.iload 4, 2) := by decide +kernel
theorem dL_law_926 : decode cL_law 926 = .ok (.iconst 1, 1) := by decide +kernel
theorem dL_law_927 : decode cL_law 927 = .ok (.iadd, 1) := by decide +kernel
theorem dL_law_928 : decode cL_law 928 = .ok (.iaload, 1) := by decide +kernel
theorem dL_law_929 : decode cL_law 929 = .ok (.aload_n 0, 1) := by decide +kernel
theorem dL_law_930 : decode cL_law 930 = .ok (.iload 4, 2) := by decide +kernel
theorem dL_law_932 : decode cL_law 932 = .ok (.iconst 2, 1) := by decide +kernel
theorem dL_law_933 : decode cL_law 933 = .ok (.iadd, 1) := by decide +kernel
theorem dL_law_934 : decode cL_law 934 = .ok (.iaload, 1) := by decide +kernel
theorem dL_law_935 : decode cL_law 935 = .ok (.invokevirtual 122, 3) := by decide +kernel
theorem dL_law_938 : decode cL_law 938 = .ok (.aload_n 2, 1) := by decide +kernel
theorem dL_law_939 : decode cL_law 939 = .ok (.aload_n 0, 1) := by decide +kernel
theorem dL_law_940 : decode cL_law 940 = .ok (.iload 4, 2) := by decide +kernel
theorem dL_law_942 : decode cL_law 942 = .ok (.iconst 1, 1) := by decide +kernel
theorem dL_law_943 : decode cL_law 943 = .ok (.iadd, 1) := by decide +kernel
theorem dL_law_944 : decode cL_law 944 = .ok (.iaload, 1) := by decide +kernel
theorem dL_law_945 : decode cL_law 945 = .ok (.aload_n 0, 1) := by decide +kernel
theorem dL_law_946 : decode cL_law 946 = .ok (.iload 4, 2) := by decide +kernel
theorem dL_law_948 : decode cL_law 948 = .ok (.iconst 2, 1) := by decide +kernel
theorem dL_law_949 : decode cL_law 949 = .ok (.iadd, 1) := by decide +kernel
theorem dL_law_950 : decode cL_law 950 = .ok (.iaload, 1) := by decide +kernel
theorem dL_law_951 : decode cL_law 951 = .ok (.invokevirtual 125, 3) := by decide +kernel
theorem dL_law_954 : decode cL_law 954 = .ok (.if_icmp .eq 55, 3) := by decide +kernel
theorem dL_law_957 : decode cL_law 957 = .ok (.iconst 0, 1) := by decide +kernel
theorem dL_law_958 : decode cL_law 958 = .ok (.ireturn, 1) := by decide +kernel
theorem dL_law_959 : decode cL_law 959 = .ok (.aload_n 1, 1) := by decide +kernel
theorem dL_law_960 : decode cL_law 960 = .ok (.aload_n 0, 1) := by decide +kernel
theorem dL_law_961 : decode cL_law 961 = .ok (.iload 4, 2) := by decide +kernel
theorem dL_law_963 : decode cL_law 963 = .ok (.iconst 1, 1) := by decide +kernel
theorem dL_law_964 : decode cL_law 964 = .ok (.iadd, 1) := by decide +kernel
theorem dL_law_965 : decode cL_law 965 = .ok (.iaload, 1) := by decide +kernel
theorem dL_law_966 : decode cL_law 966 = .ok (.invokevirtual 126, 3) := by decide +kernel
theorem dL_law_969 : decode cL_law 969 = .ok (.aload_n 2, 1) := by decide +kernel
theorem dL_law_970 : decode cL_law 970 = .ok (.aload_n 0, 1) := by decide +kernel
theorem dL_law_971 : decode cL_law 971 = .ok (.iload 4, 2) := by decide +kernel
theorem dL_law_973 : decode cL_law 973 = .ok (.iconst 1, 1) := by decide +kernel
theorem dL_law_974 : decode cL_law 974 = .ok (.iadd, 1) := by decide +kernel
theorem dL_law_975 : decode cL_law 975 = .ok (.iaload, 1) := by decide +kernel
theorem dL_law_976 : decode cL_law 976 = .ok (.invokevirtual 129, 3) := by decide +kernel
theorem dL_law_979 : decode cL_law 979 = .ok (.if_icmp .eq 30, 3) := by decide +kernel
theorem dL_law_982 : decode cL_law 982 = .ok (.iconst 0, 1) := by decide +kernel
theorem dL_law_983 : decode cL_law 983 = .ok (.ireturn, 1) := by decide +kernel
theorem dL_law_984 : decode cL_law 984 = .ok (.aload_n 1, 1) := by decide +kernel
theorem dL_law_985 : decode cL_law 985 = .ok (.aload_n 0, 1) := by decide +kernel
theorem dL_law_986 : decode cL_law 986 = .ok (.iload 4, 2) := by decide +kernel
theorem dL_law_988 : decode cL_law 988 = .ok (.iconst 1, 1) := by decide +kernel
theorem dL_law_989 : decode cL_law 989 = .ok (.iadd, 1) := by decide +kernel
theorem dL_law_990 : decode cL_law 990 = .ok (.iaload, 1) := by decide +kernel
theorem dL_law_991 : decode cL_law 991 = .ok (.invokevirtual 130, 3) := by decide +kernel
theorem dL_law_994 : decode cL_law 994 = .ok (.aload_n 2, 1) := by decide +kernel
theorem dL_law_995 : decode cL_law 995 = .ok (.aload_n 0, 1) := by decide +kernel
theorem dL_law_996 : decode cL_law 996 = .ok (.iload 4, 2) := by decide +kernel
theorem dL_law_998 : decode cL_law 998 = .ok (.iconst 1, 1) := by decide +kernel
theorem dL_law_999 : decode cL_law 999 = .ok (.iadd, 1) := by decide +kernel
theorem dL_law_1000 : decode cL_law 1000 = .ok (.iaload, 1) := by decide +kernel
theorem dL_law_1001 : decode cL_law 1001 = .ok (.invokevirtual 133, 3) := by decide +kernel
theorem dL_law_1004 : decode cL_law 1004 = .ok (.if_icmp .eq 5, 3) := by decide +kernel
theorem dL_law_1007 : decode cL_law 1007 = .ok (.iconst 0, 1) := by decide +kernel
theorem dL_law_1008 : decode cL_law 1008 = .ok (.ireturn, 1) := by decide +kernel
theorem dL_law_1009 : decode cL_law 1009 = .ok (.iinc 4 4, 3) := by decide +kernel
theorem dL_law_1012 : decode cL_law 1012 = .ok (.goto (-989), 3) := by decide +kernel
theorem dL_law_1015 : decode cL_law 1015 = .ok (.iconst 1, 1) := by decide +kernel
theorem dL_law_1016 : decode cL_law 1016 = .ok (.ireturn, 1) := by decide +kernel
