theorem d_M_init_0 : decode b_M_init 0 = .ok (.aload_n 0, 1) := by decide +kernel
theorem d_M_init_1 : decode b_M_init 1 = .ok (.invokespecial 1, 3) := by decide +kernel
theorem d_M_init_4 : decode b_M_init 4 = .ok (.aload_n 0, 1) := by decide +kernel
theorem d_M_init_5 : decode b_M_init 5 = .ok (.bipush 48, 2) := by decide +kernel
theorem d_M_init_7 : decode b_M_init 7 = .ok (.newarray .long, 2) := by decide +kernel
theorem d_M_init_9 : decode b_M_init 9 = .ok (.putfield 7, 3) := by decide +kernel
theorem d_M_init_12 : decode b_M_init 12 = .ok (.aload_n 0, 1) := by decide +kernel
theorem d_M_init_13 : decode b_M_init 13 = .ok (.bipush 48, 2) := by decide +kernel
theorem d_M_init_15 : decode b_M_init 15 = .ok (.newarray .int, 2) := by decide +kernel
theorem d_M_init_17 : decode b_M_init 17 = .ok (.putfield 13, 3) := by decide +kernel
theorem d_M_init_20 : decode b_M_init 20 = .ok (.aload_n 0, 1) := by decide +kernel
theorem d_M_init_21 : decode b_M_init 21 = .ok (.bipush 48, 2) := by decide +kernel
theorem d_M_init_23 : decode b_M_init 23 = .ok (.newarray .int, 2) := by decide +kernel
theorem d_M_init_25 : decode b_M_init 25 = .ok (.putfield 17, 3) := by decide +kernel
theorem d_M_init_28 : decode b_M_init 28 = .ok (.aload_n 0, 1) := by decide +kernel
theorem d_M_init_29 : decode b_M_init 29 = .ok (.sipush 624, 3) := by decide +kernel
theorem d_M_init_32 : decode b_M_init 32 = .ok (.newarray .int, 2) := by decide +kernel
theorem d_M_init_34 : decode b_M_init 34 = .ok (.putfield 20, 3) := by decide +kernel
theorem d_M_init_37 : decode b_M_init 37 = .ok (.aload_n 0, 1) := by decide +kernel
theorem d_M_init_38 : decode b_M_init 38 = .ok (.sipush 625, 3) := by decide +kernel
theorem d_M_init_41 : decode b_M_init 41 = .ok (.newarray .int, 2) := by decide +kernel
theorem d_M_init_43 : decode b_M_init 43 = .ok (.putfield 23, 3) := by decide +kernel
theorem d_M_init_46 : decode b_M_init 46 = .ok (.aload_n 0, 1) := by decide +kernel
theorem d_M_init_47 : decode b_M_init 47 = .ok (.sipush 625, 3) := by decide +kernel
theorem d_M_init_50 : decode b_M_init 50 = .ok (.newarray .int, 2) := by decide +kernel
theorem d_M_init_52 : decode b_M_init 52 = .ok (.putfield 26, 3) := by decide +kernel
theorem d_M_init_55 : decode b_M_init 55 = .ok (.aload_n 0, 1) := by decide +kernel
theorem d_M_init_56 : decode b_M_init 56 = .ok (.sipush 169, 3) := by decide +kernel
theorem d_M_init_59 : decode b_M_init 59 = .ok (.newarray .int, 2) := by decide +kernel
theorem d_M_init_61 : decode b_M_init 61 = .ok (.putfield 29, 3) := by decide +kernel
theorem d_M_init_64 : decode b_M_init 64 = .ok (.aload_n 0, 1) := by decide +kernel
theorem d_M_init_65 : decode b_M_init 65 = .ok (.iconst 0, 1) := by decide +kernel
theorem d_M_init_66 : decode b_M_init 66 = .ok (.putfield 32, 3) := by decide +kernel
theorem d_M_init_69 : decode b_M_init 69 = .ok (.return_, 1) := by decide +kernel
theorem d_M_add_0 : decode b_M_add 0 = .ok (.aload_n 0, 1) := by decide +kernel
theorem d_M_add_1 : decode b_M_add 1 = .ok (.getfield 40, 3) := by decide +kernel
theorem d_M_add_4 : decode b_M_add 4 = .ok (.ifCond .eq 5, 3) := by decide +kernel
theorem d_M_add_7 : decode b_M_add 7 = .ok (.iconst (-1), 1) := by decide +kernel
theorem d_M_add_8 : decode b_M_add 8 = .ok (.ireturn, 1) := by decide +kernel
theorem d_M_add_9 : decode b_M_add 9 = .ok (.lload_n 1, 1) := by decide +kernel
theorem d_M_add_10 : decode b_M_add 10 = .ok (.invokestatic 44, 3) := by decide +kernel
theorem d_M_add_13 : decode b_M_add 13 = .ok (.ifCond .ne 6, 3) := by decide +kernel
theorem d_M_add_16 : decode b_M_add 16 = .ok (.bipush (-2), 2) := by decide +kernel
theorem d_M_add_18 : decode b_M_add 18 = .ok (.ireturn, 1) := by decide +kernel
theorem d_M_add_19 : decode b_M_add 19 = .ok (.aload_n 0, 1) := by decide +kernel
theorem d_M_add_20 : decode b_M_add 20 = .ok (.getfield 32, 3) := by decide +kernel
theorem d_M_add_23 : decode b_M_add 23 = .ok (.bipush 48, 2) := by decide +kernel
theorem d_M_add_25 : decode b_M_add 25 = .ok (.if_icmp .ne 6, 3) := by decide +kernel
theorem d_M_add_28 : decode b_M_add 28 = .ok (.bipush (-3), 2) := by decide +kernel
theorem d_M_add_30 : decode b_M_add 30 = .ok (.ireturn, 1) := by decide +kernel
theorem d_M_add_31 : decode b_M_add 31 = .ok (.aload_n 0, 1) := by decide +kernel
theorem d_M_add_32 : decode b_M_add 32 = .ok (.getfield 32, 3) := by decide +kernel
theorem d_M_add_35 : decode b_M_add 35 = .ok (.ifCond .le 22, 3) := by decide +kernel
theorem d_M_add_38 : decode b_M_add 38 = .ok (.lload_n 1, 1) := by decide +kernel
theorem d_M_add_39 : decode b_M_add 39 = .ok (.aload_n 0, 1) := by decide +kernel
theorem d_M_add_40 : decode b_M_add 40 = .ok (.getfield 7, 3) := by decide +kernel
theorem d_M_add_43 : decode b_M_add 43 = .ok (.aload_n 0, 1) := by decide +kernel
theorem d_M_add_44 : decode b_M_add 44 = .ok (.getfield 32, 3) := by decide +kernel
theorem d_M_add_47 : decode b_M_add 47 = .ok (.iconst 1, 1) := by decide +kernel
theorem d_M_add_48 : decode b_M_add 48 = .ok (.isub, 1) := by decide +kernel
theorem d_M_add_49 : decode b_M_add 49 = .ok (.laload, 1) := by decide +kernel
theorem d_M_add_50 : decode b_M_add 50 = .ok (.lcmp, 1) := by decide +kernel
theorem d_M_add_51 : decode b_M_add 51 = .ok (.ifCond .gt 6, 3) := by decide +kernel
theorem d_M_add_54 : decode b_M_add 54 = .ok (.bipush (-4), 2) := by decide +kernel
theorem d_M_add_56 : decode b_M_add 56 = .ok (.ireturn, 1) := by decide +kernel
theorem d_M_add_57 : decode b_M_add 57 = .ok (.aload_n 0, 1) := by decide +kernel
theorem d_M_add_58 : decode b_M_add 58 = .ok (.getfield 7, 3) := by decide +kernel
theorem d_M_add_61 : decode b_M_add 61 = .ok (.aload_n 0, 1) := by decide +kernel
theorem d_M_add_62 : decode b_M_add 62 = .ok (.getfield 32, 3) := by decide +kernel
theorem d_M_add_65 : decode b_M_add 65 = .ok (.lload_n 1, 1) := by decide +kernel
theorem d_M_add_66 : decode b_M_add 66 = .ok (.lastore, 1) := by decide +kernel
theorem d_M_add_67 : decode b_M_add 67 = .ok (.aload_n 0, 1) := by decide +kernel
theorem d_M_add_68 : decode b_M_add 68 = .ok (.aload_n 0, 1) := by decide +kernel
theorem d_M_add_69 : decode b_M_add 69 = .ok (.getfield 32, 3) := by decide +kernel
theorem d_M_add_72 : decode b_M_add 72 = .ok (.iconst 1, 1) := by decide +kernel
theorem d_M_add_73 : decode b_M_add 73 = .ok (.iadd, 1) := by decide +kernel
theorem d_M_add_74 : decode b_M_add 74 = .ok (.putfield 32, 3) := by decide +kernel
theorem d_M_add_77 : decode b_M_add 77 = .ok (.iconst 0, 1) := by decide +kernel
theorem d_M_add_78 : decode b_M_add 78 = .ok (.ireturn, 1) := by decide +kernel
theorem d_M_also_0 : decode b_M_also 0 = .ok (.iconst 0, 1) := by decide +kernel
theorem d_M_also_1 : decode b_M_also 1 = .ok (.istore 5, 2) := by decide +kernel
theorem d_M_also_3 : decode b_M_also 3 = .ok (.iload 5, 2) := by decide +kernel
theorem d_M_also_5 : decode b_M_also 5 = .ok (.aload_n 0, 1) := by decide +kernel
theorem d_M_also_6 : decode b_M_also 6 = .ok (.getfield 32, 3) := by decide +kernel
theorem d_M_also_9 : decode b_M_also 9 = .ok (.if_icmp .ge 117, 3) := by decide +kernel
theorem d_M_also_12 : decode b_M_also 12 = .ok (.aload_n 0, 1) := by decide +kernel
theorem d_M_also_13 : decode b_M_also 13 = .ok (.iload 5, 2) := by decide +kernel
theorem d_M_also_15 : decode b_M_also 15 = .ok (.iload_n 3, 1) := by decide +kernel
theorem d_M_also_16 : decode b_M_also 16 = .ok (.iload 4, 2) := by decide +kernel
theorem d_M_also_18 : decode b_M_also 18 = .ok (.invokevirtual 48, 3) := by decide +kernel
theorem d_M_also_21 : decode b_M_also 21 = .ok (.ifCond .eq 99, 3) := by decide +kernel
theorem d_M_also_24 : decode b_M_also 24 = .ok (.aload_n 0, 1) := by decide +kernel
theorem d_M_also_25 : decode b_M_also 25 = .ok (.getfield 7, 3) := by decide +kernel
theorem d_M_also_28 : decode b_M_also 28 = .ok (.iload 5, 2) := by decide +kernel
theorem d_M_also_30 : decode b_M_also 30 = .ok (.laload, 1) := by decide +kernel
theorem d_M_also_31 : decode b_M_also 31 = .ok (.invokestatic 52, 3) := by decide +kernel
theorem d_M_also_34 : decode b_M_also 34 = .ok (.iload 4, 2) := by decide +kernel
theorem d_M_also_36 : decode b_M_also 36 = .ok (.isub, 1) := by decide +kernel
theorem d_M_also_37 : decode b_M_also 37 = .ok (.aload_n 0, 1) := by decide +kernel
theorem d_M_also_38 : decode b_M_also 38 = .ok (.getfield 7, 3) := by decide +kernel
theorem d_M_also_41 : decode b_M_also 41 = .ok (.iload_n 1, 1) := by decide +kernel
theorem d_M_also_42 : decode b_M_also 42 = .ok (.laload, 1) := by decide +kernel
theorem d_M_also_43 : decode b_M_also 43 = .ok (.invokestatic 52, 3) := by decide +kernel
theorem d_M_also_46 : decode b_M_also 46 = .ok (.iload_n 2, 1) := by decide +kernel
theorem d_M_also_47 : decode b_M_also 47 = .ok (.isub, 1) := by decide +kernel
theorem d_M_also_48 : decode b_M_also 48 = .ok (.if_icmp .ne 72, 3) := by decide +kernel
theorem d_M_also_51 : decode b_M_also 51 = .ok (.iconst 1, 1) := by decide +kernel
theorem d_M_also_52 : decode b_M_also 52 = .ok (.istore 6, 2) := by decide +kernel
theorem d_M_also_54 : decode b_M_also 54 = .ok (.iconst 0, 1) := by decide +kernel
theorem d_M_also_55 : decode b_M_also 55 = .ok (.istore 7, 2) := by decide +kernel
theorem d_M_also_57 : decode b_M_also 57 = .ok (.iload 7, 2) := by decide +kernel
theorem d_M_also_59 : decode b_M_also 59 = .ok (.aload_n 0, 1) := by decide +kernel
theorem d_M_also_60 : decode b_M_also 60 = .ok (.getfield 7, 3) := by decide +kernel
theorem d_M_also_63 : decode b_M_also 63 = .ok (.iload_n 1, 1) := by decide +kernel
theorem d_M_also_64 : decode b_M_also 64 = .ok (.laload, 1) := by decide +kernel
theorem d_M_also_65 : decode b_M_also 65 = .ok (.invokestatic 52, 3) := by decide +kernel
theorem d_M_also_68 : decode b_M_also 68 = .ok (.iload_n 2, 1) := by decide +kernel
theorem d_M_also_69 : decode b_M_also 69 = .ok (.isub, 1) := by decide +kernel
theorem d_M_also_70 : decode b_M_also 70 = .ok (.if_icmp .ge 43, 3) := by decide +kernel
theorem d_M_also_73 : decode b_M_also 73 = .ok (.aload_n 0, 1) := by decide +kernel
theorem d_M_also_74 : decode b_M_also 74 = .ok (.getfield 7, 3) := by decide +kernel
theorem d_M_also_77 : decode b_M_also 77 = .ok (.iload 5, 2) := by decide +kernel
theorem d_M_also_79 : decode b_M_also 79 = .ok (.laload, 1) := by decide +kernel
theorem d_M_also_80 : decode b_M_also 80 = .ok (.iload 4, 2) := by decide +kernel
theorem d_M_also_82 : decode b_M_also 82 = .ok (.iload 7, 2) := by decide +kernel
theorem d_M_also_84 : decode b_M_also 84 = .ok (.iadd, 1) := by decide +kernel
theorem d_M_also_85 : decode b_M_also 85 = .ok (.invokestatic 36, 3) := by decide +kernel
theorem d_M_also_88 : decode b_M_also 88 = .ok (.aload_n 0, 1) := by decide +kernel
theorem d_M_also_89 : decode b_M_also 89 = .ok (.getfield 7, 3) := by decide +kernel
theorem d_M_also_92 : decode b_M_also 92 = .ok (.iload_n 1, 1) := by decide +kernel
theorem d_M_also_93 : decode b_M_also 93 = .ok (.laload, 1) := by decide +kernel
theorem d_M_also_94 : decode b_M_also 94 = .ok (.iload_n 2, 1) := by decide +kernel
theorem d_M_also_95 : decode b_M_also 95 = .ok (.iload 7, 2) := by decide +kernel
theorem d_M_also_97 : decode b_M_also 97 = .ok (.iadd, 1) := by decide +kernel
theorem d_M_also_98 : decode b_M_also 98 = .ok (.invokestatic 36, 3) := by decide +kernel
theorem d_M_also_101 : decode b_M_also 101 = .ok (.if_icmp .eq 6, 3) := by decide +kernel
theorem d_M_also_104 : decode b_M_also 104 = .ok (.iconst 0, 1) := by decide +kernel
theorem d_M_also_105 : decode b_M_also 105 = .ok (.istore 6, 2) := by decide +kernel
theorem d_M_also_107 : decode b_M_also 107 = .ok (.iinc 7 1, 3) := by decide +kernel
theorem d_M_also_110 : decode b_M_also 110 = .ok (.goto (-53), 3) := by decide +kernel
theorem d_M_also_113 : decode b_M_also 113 = .ok (.iload 6, 2) := by decide +kernel
theorem d_M_also_115 : decode b_M_also 115 = .ok (.ifCond .eq 5, 3) := by decide +kernel
theorem d_M_also_118 : decode b_M_also 118 = .ok (.iconst 1, 1) := by decide +kernel
theorem d_M_also_119 : decode b_M_also 119 = .ok (.ireturn, 1) := by decide +kernel
theorem d_M_also_120 : decode b_M_also 120 = .ok (.iinc 5 1, 3) := by decide +kernel
theorem d_M_also_123 : decode b_M_also 123 = .ok (.goto (-120), 3) := by decide +kernel
theorem d_M_also_126 : decode b_M_also 126 = .ok (.iconst 0, 1) := by decide +kernel
theorem d_M_also_127 : decode b_M_also 127 = .ok (.ireturn, 1) := by decide +kernel
theorem d_M_between_0 : decode b_M_between 0 = .ok (.lload_n 1, 1) := by decide +kernel
theorem d_M_between_1 : decode b_M_between 1 = .ok (.invokestatic 52, 3) := by decide +kernel
theorem d_M_between_4 : decode b_M_between 4 = .ok (.istore 5, 2) := by decide +kernel
theorem d_M_between_6 : decode b_M_between 6 = .ok (.lload_n 3, 1) := by decide +kernel
theorem d_M_between_7 : decode b_M_between 7 = .ok (.invokestatic 52, 3) := by decide +kernel
theorem d_M_between_10 : decode b_M_between 10 = .ok (.istore 6, 2) := by decide +kernel
theorem d_M_between_12 : decode b_M_between 12 = .ok (.iconst 0, 1) := by decide +kernel
theorem d_M_between_13 : decode b_M_between 13 = .ok (.istore 7, 2) := by decide +kernel
theorem d_M_between_15 : decode b_M_between 15 = .ok (.iload 7, 2) := by decide +kernel
theorem d_M_between_17 : decode b_M_between 17 = .ok (.iload 5, 2) := by decide +kernel
theorem d_M_between_19 : decode b_M_between 19 = .ok (.if_icmp .gt 186, 3) := by decide +kernel
theorem d_M_between_22 : decode b_M_between 22 = .ok (.iconst 0, 1) := by decide +kernel
theorem d_M_between_23 : decode b_M_between 23 = .ok (.istore 8, 2) := by decide +kernel
theorem d_M_between_25 : decode b_M_between 25 = .ok (.iload 8, 2) := by decide +kernel
theorem d_M_between_27 : decode b_M_between 27 = .ok (.iload 6, 2) := by decide +kernel
theorem d_M_between_29 : decode b_M_between 29 = .ok (.if_icmp .gt 170, 3) := by decide +kernel
theorem d_M_between_32 : decode b_M_between 32 = .ok (.iload 7, 2) := by decide +kernel
theorem d_M_between_34 : decode b_M_between 34 = .ok (.iload 8, 2) := by decide +kernel
theorem d_M_between_36 : decode b_M_between 36 = .ok (.iadd, 1) := by decide +kernel
theorem d_M_between_37 : decode b_M_between 37 = .ok (.istore 9, 2) := by decide +kernel
theorem d_M_between_39 : decode b_M_between 39 = .ok (.iload 7, 2) := by decide +kernel
theorem d_M_between_41 : decode b_M_between 41 = .ok (.ifCond .le 137, 3) := by decide +kernel
theorem d_M_between_44 : decode b_M_between 44 = .ok (.iload 8, 2) := by decide +kernel
theorem d_M_between_46 : decode b_M_between 46 = .ok (.ifCond .le 132, 3) := by decide +kernel
theorem d_M_between_49 : decode b_M_between 49 = .ok (.aload_n 0, 1) := by decide +kernel
theorem d_M_between_50 : decode b_M_between 50 = .ok (.getfield 29, 3) := by decide +kernel
theorem d_M_between_53 : decode b_M_between 53 = .ok (.bipush 13, 2) := by decide +kernel
theorem d_M_between_55 : decode b_M_between 55 = .ok (.iload 7, 2) := by decide +kernel
theorem d_M_between_57 : decode b_M_between 57 = .ok (.imul, 1) := by decide +kernel
theorem d_M_between_58 : decode b_M_between 58 = .ok (.bipush 13, 2) := by decide +kernel
theorem d_M_between_60 : decode b_M_between 60 = .ok (.isub, 1) := by decide +kernel
theorem d_M_between_61 : decode b_M_between 61 = .ok (.iload 8, 2) := by decide +kernel
theorem d_M_between_63 : decode b_M_between 63 = .ok (.iadd, 1) := by decide +kernel
theorem d_M_between_64 : decode b_M_between 64 = .ok (.iconst 1, 1) := by decide +kernel
theorem d_M_between_65 : decode b_M_between 65 = .ok (.isub, 1) := by decide +kernel
theorem d_M_between_66 : decode b_M_between 66 = .ok (.iaload, 1) := by decide +kernel
theorem d_M_between_67 : decode b_M_between 67 = .ok (.lload_n 1, 1) := by decide +kernel
theorem d_M_between_68 : decode b_M_between 68 = .ok (.iload 7, 2) := by decide +kernel
theorem d_M_between_70 : decode b_M_between 70 = .ok (.iconst 1, 1) := by decide +kernel
theorem d_M_between_71 : decode b_M_between 71 = .ok (.isub, 1) := by decide +kernel
theorem d_M_between_72 : decode b_M_between 72 = .ok (.invokestatic 36, 3) := by decide +kernel
theorem d_M_between_75 : decode b_M_between 75 = .ok (.lload_n 3, 1) := by decide +kernel
theorem d_M_between_76 : decode b_M_between 76 = .ok (.iload 8, 2) := by decide +kernel
theorem d_M_between_78 : decode b_M_between 78 = .ok (.iconst 1, 1) := by decide +kernel
theorem d_M_between_79 : decode b_M_between 79 = .ok (.isub, 1) := by decide +kernel
theorem d_M_between_80 : decode b_M_between 80 = .ok (.invokestatic 36, 3) := by decide +kernel
theorem d_M_between_83 : decode b_M_between 83 = .ok (.if_icmp .ne 7, 3) := by decide +kernel
theorem d_M_between_86 : decode b_M_between 86 = .ok (.iconst 0, 1) := by decide +kernel
theorem d_M_between_87 : decode b_M_between 87 = .ok (.goto 4, 3) := by decide +kernel
theorem d_M_between_90 : decode b_M_between 90 = .ok (.iconst 1, 1) := by decide +kernel
theorem d_M_between_91 : decode b_M_between 91 = .ok (.iadd, 1) := by decide +kernel
theorem d_M_between_92 : decode b_M_between 92 = .ok (.istore 9, 2) := by decide +kernel
theorem d_M_between_94 : decode b_M_between 94 = .ok (.aload_n 0, 1) := by decide +kernel
theorem d_M_between_95 : decode b_M_between 95 = .ok (.getfield 29, 3) := by decide +kernel
theorem d_M_between_98 : decode b_M_between 98 = .ok (.bipush 13, 2) := by decide +kernel
theorem d_M_between_100 : decode b_M_between 100 = .ok (.iload 7, 2) := by decide +kernel
theorem d_M_between_102 : decode b_M_between 102 = .ok (.imul, 1) := by decide +kernel
theorem d_M_between_103 : decode b_M_between 103 = .ok (.bipush 13, 2) := by decide +kernel
theorem d_M_between_105 : decode b_M_between 105 = .ok (.isub, 1) := by decide +kernel
theorem d_M_between_106 : decode b_M_between 106 = .ok (.iload 8, 2) := by decide +kernel
theorem d_M_between_108 : decode b_M_between 108 = .ok (.iadd, 1) := by decide +kernel
theorem d_M_between_109 : decode b_M_between 109 = .ok (.iaload, 1) := by decide +kernel
theorem d_M_between_110 : decode b_M_between 110 = .ok (.iconst 1, 1) := by decide +kernel
theorem d_M_between_111 : decode b_M_between 111 = .ok (.iadd, 1) := by decide +kernel
theorem d_M_between_112 : decode b_M_between 112 = .ok (.iload 9, 2) := by decide +kernel
theorem d_M_between_114 : decode b_M_between 114 = .ok (.if_icmp .ge 23, 3) := by decide +kernel
theorem d_M_between_117 : decode b_M_between 117 = .ok (.aload_n 0, 1) := by decide +kernel
theorem d_M_between_118 : decode b_M_between 118 = .ok (.getfield 29, 3) := by decide +kernel
theorem d_M_between_121 : decode b_M_between 121 = .ok (.bipush 13, 2) := by decide +kernel
theorem d_M_between_123 : decode b_M_between 123 = .ok (.iload 7, 2) := by decide +kernel
theorem d_M_between_125 : decode b_M_between 125 = .ok (.imul, 1) := by decide +kernel
theorem d_M_between_126 : decode b_M_between 126 = .ok (.bipush 13, 2) := by decide +kernel
theorem d_M_between_128 : decode b_M_between 128 = .ok (.isub, 1) := by decide +kernel
theorem d_M_between_129 : decode b_M_between 129 = .ok (.iload 8, 2) := by decide +kernel
theorem d_M_between_131 : decode b_M_between 131 = .ok (.iadd, 1) := by decide +kernel
theorem d_M_between_132 : decode b_M_between 132 = .ok (.iaload, 1) := by decide +kernel
theorem d_M_between_133 : decode b_M_between 133 = .ok (.iconst 1, 1) := by decide +kernel
theorem d_M_between_134 : decode b_M_between 134 = .ok (.iadd, 1) := by decide +kernel
theorem d_M_between_135 : decode b_M_between 135 = .ok (.istore 9, 2) := by decide +kernel
theorem d_M_between_137 : decode b_M_between 137 = .ok (.aload_n 0, 1) := by decide +kernel
theorem d_M_between_138 : decode b_M_between 138 = .ok (.getfield 29, 3) := by decide +kernel
theorem d_M_between_141 : decode b_M_between 141 = .ok (.bipush 13, 2) := by decide +kernel
theorem d_M_between_143 : decode b_M_between 143 = .ok (.iload 7, 2) := by decide +kernel
theorem d_M_between_145 : decode b_M_between 145 = .ok (.imul, 1) := by decide +kernel
theorem d_M_between_146 : decode b_M_between 146 = .ok (.iload 8, 2) := by decide +kernel
theorem d_M_between_148 : decode b_M_between 148 = .ok (.iadd, 1) := by decide +kernel
theorem d_M_between_149 : decode b_M_between 149 = .ok (.iconst 1, 1) := by decide +kernel
theorem d_M_between_150 : decode b_M_between 150 = .ok (.isub, 1) := by decide +kernel
theorem d_M_between_151 : decode b_M_between 151 = .ok (.iaload, 1) := by decide +kernel
theorem d_M_between_152 : decode b_M_between 152 = .ok (.iconst 1, 1) := by decide +kernel
theorem d_M_between_153 : decode b_M_between 153 = .ok (.iadd, 1) := by decide +kernel
theorem d_M_between_154 : decode b_M_between 154 = .ok (.iload 9, 2) := by decide +kernel
theorem d_M_between_156 : decode b_M_between 156 = .ok (.if_icmp .ge 22, 3) := by decide +kernel
theorem d_M_between_159 : decode b_M_between 159 = .ok (.aload_n 0, 1) := by decide +kernel
theorem d_M_between_160 : decode b_M_between 160 = .ok (.getfield 29, 3) := by decide +kernel
theorem d_M_between_163 : decode b_M_between 163 = .ok (.bipush 13, 2) := by decide +kernel
theorem d_M_between_165 : decode b_M_between 165 = .ok (.iload 7, 2) := by decide +kernel
theorem d_M_between_167 : decode b_M_between 167 = .ok (.imul, 1) := by decide +kernel
theorem d_M_between_168 : decode b_M_between 168 = .ok (.iload 8, 2) := by decide +kernel
theorem d_M_between_170 : decode b_M_between 170 = .ok (.iadd, 1) := by decide +kernel
theorem d_M_between_171 : decode b_M_between 171 = .ok (.iconst 1, 1) := by decide +kernel
theorem d_M_between_172 : decode b_M_between 172 = .ok (.isub, 1) := by decide +kernel
theorem d_M_between_173 : decode b_M_between 173 = .ok (.iaload, 1) := by decide +kernel
theorem d_M_between_174 : decode b_M_between 174 = .ok (.iconst 1, 1) := by decide +kernel
theorem d_M_between_175 : decode b_M_between 175 = .ok (.iadd, 1) := by decide +kernel
theorem d_M_between_176 : decode b_M_between 176 = .ok (.istore 9, 2) := by decide +kernel
theorem d_M_between_178 : decode b_M_between 178 = .ok (.aload_n 0, 1) := by decide +kernel
theorem d_M_between_179 : decode b_M_between 179 = .ok (.getfield 29, 3) := by decide +kernel
theorem d_M_between_182 : decode b_M_between 182 = .ok (.bipush 13, 2) := by decide +kernel
theorem d_M_between_184 : decode b_M_between 184 = .ok (.iload 7, 2) := by decide +kernel
theorem d_M_between_186 : decode b_M_between 186 = .ok (.imul, 1) := by decide +kernel
theorem d_M_between_187 : decode b_M_between 187 = .ok (.iload 8, 2) := by decide +kernel
theorem d_M_between_189 : decode b_M_between 189 = .ok (.iadd, 1) := by decide +kernel
theorem d_M_between_190 : decode b_M_between 190 = .ok (.iload 9, 2) := by decide +kernel
theorem d_M_between_192 : decode b_M_between 192 = .ok (.iastore, 1) := by decide +kernel
theorem d_M_between_193 : decode b_M_between 193 = .ok (.iinc 8 1, 3) := by decide +kernel
theorem d_M_between_196 : decode b_M_between 196 = .ok (.goto (-171), 3) := by decide +kernel
theorem d_M_between_199 : decode b_M_between 199 = .ok (.iinc 7 1, 3) := by decide +kernel
theorem d_M_between_202 : decode b_M_between 202 = .ok (.goto (-187), 3) := by decide +kernel
theorem d_M_between_205 : decode b_M_between 205 = .ok (.aload_n 0, 1) := by decide +kernel
theorem d_M_between_206 : decode b_M_between 206 = .ok (.getfield 29, 3) := by decide +kernel
theorem d_M_between_209 : decode b_M_between 209 = .ok (.bipush 13, 2) := by decide +kernel
theorem d_M_between_211 : decode b_M_between 211 = .ok (.iload 5, 2) := by decide +kernel
theorem d_M_between_213 : decode b_M_between 213 = .ok (.imul, 1) := by decide +kernel
theorem d_M_between_214 : decode b_M_between 214 = .ok (.iload 6, 2) := by decide +kernel
theorem d_M_between_216 : decode b_M_between 216 = .ok (.iadd, 1) := by decide +kernel
theorem d_M_between_217 : decode b_M_between 217 = .ok (.iaload, 1) := by decide +kernel
theorem d_M_between_218 : decode b_M_between 218 = .ok (.ireturn, 1) := by decide +kernel
theorem d_M_clear_0 : decode b_M_clear 0 = .ok (.aload_n 0, 1) := by decide +kernel
theorem d_M_clear_1 : decode b_M_clear 1 = .ok (.iconst 0, 1) := by decide +kernel
theorem d_M_clear_2 : decode b_M_clear 2 = .ok (.putfield 40, 3) := by decide +kernel
theorem d_M_clear_5 : decode b_M_clear 5 = .ok (.aload_n 0, 1) := by decide +kernel
theorem d_M_clear_6 : decode b_M_clear 6 = .ok (.iconst 0, 1) := by decide +kernel
theorem d_M_clear_7 : decode b_M_clear 7 = .ok (.putfield 32, 3) := by decide +kernel
theorem d_M_clear_10 : decode b_M_clear 10 = .ok (.aload_n 0, 1) := by decide +kernel
theorem d_M_clear_11 : decode b_M_clear 11 = .ok (.iconst 0, 1) := by decide +kernel
theorem d_M_clear_12 : decode b_M_clear 12 = .ok (.putfield 70, 3) := by decide +kernel
theorem d_M_clear_15 : decode b_M_clear 15 = .ok (.aload_n 0, 1) := by decide +kernel
theorem d_M_clear_16 : decode b_M_clear 16 = .ok (.iconst 0, 1) := by decide +kernel
theorem d_M_clear_17 : decode b_M_clear 17 = .ok (.putfield 60, 3) := by decide +kernel
theorem d_M_clear_20 : decode b_M_clear 20 = .ok (.return_, 1) := by decide +kernel
theorem d_M_distance_0 : decode b_M_distance 0 = .ok (.lload_n 1, 1) := by decide +kernel
theorem d_M_distance_1 : decode b_M_distance 1 = .ok (.invokestatic 44, 3) := by decide +kernel
theorem d_M_distance_4 : decode b_M_distance 4 = .ok (.ifCond .eq 15, 3) := by decide +kernel
theorem d_M_distance_7 : decode b_M_distance 7 = .ok (.iload_n 3, 1) := by decide +kernel
theorem d_M_distance_8 : decode b_M_distance 8 = .ok (.ifCond .lt 11, 3) := by decide +kernel
theorem d_M_distance_11 : decode b_M_distance 11 = .ok (.iload_n 3, 1) := by decide +kernel
theorem d_M_distance_12 : decode b_M_distance 12 = .ok (.aload_n 0, 1) := by decide +kernel
theorem d_M_distance_13 : decode b_M_distance 13 = .ok (.getfield 32, 3) := by decide +kernel
theorem d_M_distance_16 : decode b_M_distance 16 = .ok (.if_icmp .lt 7, 3) := by decide +kernel
theorem d_M_distance_19 : decode b_M_distance 19 = .ok (.iconst (-1), 1) := by decide +kernel
theorem d_M_distance_20 : decode b_M_distance 20 = .ok (.goto 14, 3) := by decide +kernel
theorem d_M_distance_23 : decode b_M_distance 23 = .ok (.aload_n 0, 1) := by decide +kernel
theorem d_M_distance_24 : decode b_M_distance 24 = .ok (.lload_n 1, 1) := by decide +kernel
theorem d_M_distance_25 : decode b_M_distance 25 = .ok (.aload_n 0, 1) := by decide +kernel
theorem d_M_distance_26 : decode b_M_distance 26 = .ok (.getfield 7, 3) := by decide +kernel
theorem d_M_distance_29 : decode b_M_distance 29 = .ok (.iload_n 3, 1) := by decide +kernel
theorem d_M_distance_30 : decode b_M_distance 30 = .ok (.laload, 1) := by decide +kernel
theorem d_M_distance_31 : decode b_M_distance 31 = .ok (.invokevirtual 79, 3) := by decide +kernel
theorem d_M_distance_34 : decode b_M_distance 34 = .ok (.ireturn, 1) := by decide +kernel
theorem d_M_endings_0 : decode b_M_endings 0 = .ok (.iconst 0, 1) := by decide +kernel
theorem d_M_endings_1 : decode b_M_endings 1 = .ok (.istore_n 2, 1) := by decide +kernel
theorem d_M_endings_2 : decode b_M_endings 2 = .ok (.iconst 0, 1) := by decide +kernel
theorem d_M_endings_3 : decode b_M_endings 3 = .ok (.istore_n 3, 1) := by decide +kernel
theorem d_M_endings_4 : decode b_M_endings 4 = .ok (.iload_n 3, 1) := by decide +kernel
theorem d_M_endings_5 : decode b_M_endings 5 = .ok (.aload_n 0, 1) := by decide +kernel
theorem d_M_endings_6 : decode b_M_endings 6 = .ok (.getfield 32, 3) := by decide +kernel
theorem d_M_endings_9 : decode b_M_endings 9 = .ok (.if_icmp .ge 41, 3) := by decide +kernel
theorem d_M_endings_12 : decode b_M_endings 12 = .ok (.aload_n 0, 1) := by decide +kernel
theorem d_M_endings_13 : decode b_M_endings 13 = .ok (.iload_n 1, 1) := by decide +kernel
theorem d_M_endings_14 : decode b_M_endings 14 = .ok (.invokevirtual 75, 3) := by decide +kernel
theorem d_M_endings_17 : decode b_M_endings 17 = .ok (.ifCond .eq 27, 3) := by decide +kernel
theorem d_M_endings_20 : decode b_M_endings 20 = .ok (.aload_n 0, 1) := by decide +kernel
theorem d_M_endings_21 : decode b_M_endings 21 = .ok (.iload_n 3, 1) := by decide +kernel
theorem d_M_endings_22 : decode b_M_endings 22 = .ok (.aload_n 0, 1) := by decide +kernel
theorem d_M_endings_23 : decode b_M_endings 23 = .ok (.getfield 23, 3) := by decide +kernel
theorem d_M_endings_26 : decode b_M_endings 26 = .ok (.iload_n 1, 1) := by decide +kernel
theorem d_M_endings_27 : decode b_M_endings 27 = .ok (.iaload, 1) := by decide +kernel
theorem d_M_endings_28 : decode b_M_endings 28 = .ok (.aload_n 0, 1) := by decide +kernel
theorem d_M_endings_29 : decode b_M_endings 29 = .ok (.getfield 26, 3) := by decide +kernel
theorem d_M_endings_32 : decode b_M_endings 32 = .ok (.iload_n 1, 1) := by decide +kernel
theorem d_M_endings_33 : decode b_M_endings 33 = .ok (.iaload, 1) := by decide +kernel
theorem d_M_endings_34 : decode b_M_endings 34 = .ok (.invokevirtual 48, 3) := by decide +kernel
theorem d_M_endings_37 : decode b_M_endings 37 = .ok (.ifCond .eq 7, 3) := by decide +kernel
theorem d_M_endings_40 : decode b_M_endings 40 = .ok (.iload_n 2, 1) := by decide +kernel
theorem d_M_endings_41 : decode b_M_endings 41 = .ok (.iconst 1, 1) := by decide +kernel
theorem d_M_endings_42 : decode b_M_endings 42 = .ok (.iadd, 1) := by decide +kernel
theorem d_M_endings_43 : decode b_M_endings 43 = .ok (.istore_n 2, 1) := by decide +kernel
theorem d_M_endings_44 : decode b_M_endings 44 = .ok (.iinc 3 1, 3) := by decide +kernel
theorem d_M_endings_47 : decode b_M_endings 47 = .ok (.goto (-43), 3) := by decide +kernel
theorem d_M_endings_50 : decode b_M_endings 50 = .ok (.iload_n 2, 1) := by decide +kernel
theorem d_M_endings_51 : decode b_M_endings 51 = .ok (.ireturn, 1) := by decide +kernel
theorem d_M_ends_0 : decode b_M_ends 0 = .ok (.iconst 0, 1) := by decide +kernel
theorem d_M_ends_1 : decode b_M_ends 1 = .ok (.istore_n 2, 1) := by decide +kernel
theorem d_M_ends_2 : decode b_M_ends 2 = .ok (.iload_n 2, 1) := by decide +kernel
theorem d_M_ends_3 : decode b_M_ends 3 = .ok (.aload_n 0, 1) := by decide +kernel
theorem d_M_ends_4 : decode b_M_ends 4 = .ok (.getfield 32, 3) := by decide +kernel
theorem d_M_ends_7 : decode b_M_ends 7 = .ok (.if_icmp .ge 57, 3) := by decide +kernel
theorem d_M_ends_10 : decode b_M_ends 10 = .ok (.aload_n 0, 1) := by decide +kernel
theorem d_M_ends_11 : decode b_M_ends 11 = .ok (.iload_n 1, 1) := by decide +kernel
theorem d_M_ends_12 : decode b_M_ends 12 = .ok (.invokevirtual 75, 3) := by decide +kernel
theorem d_M_ends_15 : decode b_M_ends 15 = .ok (.ifCond .eq 43, 3) := by decide +kernel
theorem d_M_ends_18 : decode b_M_ends 18 = .ok (.aload_n 0, 1) := by decide +kernel
theorem d_M_ends_19 : decode b_M_ends 19 = .ok (.iload_n 2, 1) := by decide +kernel
theorem d_M_ends_20 : decode b_M_ends 20 = .ok (.aload_n 0, 1) := by decide +kernel
theorem d_M_ends_21 : decode b_M_ends 21 = .ok (.getfield 23, 3) := by decide +kernel
theorem d_M_ends_24 : decode b_M_ends 24 = .ok (.iload_n 1, 1) := by decide +kernel
theorem d_M_ends_25 : decode b_M_ends 25 = .ok (.iaload, 1) := by decide +kernel
theorem d_M_ends_26 : decode b_M_ends 26 = .ok (.aload_n 0, 1) := by decide +kernel
theorem d_M_ends_27 : decode b_M_ends 27 = .ok (.getfield 26, 3) := by decide +kernel
theorem d_M_ends_30 : decode b_M_ends 30 = .ok (.iload_n 1, 1) := by decide +kernel
theorem d_M_ends_31 : decode b_M_ends 31 = .ok (.iaload, 1) := by decide +kernel
theorem d_M_ends_32 : decode b_M_ends 32 = .ok (.invokevirtual 48, 3) := by decide +kernel
theorem d_M_ends_35 : decode b_M_ends 35 = .ok (.ifCond .eq 23, 3) := by decide +kernel
theorem d_M_ends_38 : decode b_M_ends 38 = .ok (.aload_n 0, 1) := by decide +kernel
theorem d_M_ends_39 : decode b_M_ends 39 = .ok (.getfield 7, 3) := by decide +kernel
theorem d_M_ends_42 : decode b_M_ends 42 = .ok (.iload_n 2, 1) := by decide +kernel
theorem d_M_ends_43 : decode b_M_ends 43 = .ok (.laload, 1) := by decide +kernel
theorem d_M_ends_44 : decode b_M_ends 44 = .ok (.invokestatic 52, 3) := by decide +kernel
theorem d_M_ends_47 : decode b_M_ends 47 = .ok (.aload_n 0, 1) := by decide +kernel
theorem d_M_ends_48 : decode b_M_ends 48 = .ok (.getfield 26, 3) := by decide +kernel
theorem d_M_ends_51 : decode b_M_ends 51 = .ok (.iload_n 1, 1) := by decide +kernel
theorem d_M_ends_52 : decode b_M_ends 52 = .ok (.iaload, 1) := by decide +kernel
theorem d_M_ends_53 : decode b_M_ends 53 = .ok (.if_icmp .ne 5, 3) := by decide +kernel
theorem d_M_ends_56 : decode b_M_ends 56 = .ok (.iconst 1, 1) := by decide +kernel
theorem d_M_ends_57 : decode b_M_ends 57 = .ok (.ireturn, 1) := by decide +kernel
theorem d_M_ends_58 : decode b_M_ends 58 = .ok (.iinc 2 1, 3) := by decide +kernel
theorem d_M_ends_61 : decode b_M_ends 61 = .ok (.goto (-59), 3) := by decide +kernel
theorem d_M_ends_64 : decode b_M_ends 64 = .ok (.iconst 0, 1) := by decide +kernel
theorem d_M_ends_65 : decode b_M_ends 65 = .ok (.ireturn, 1) := by decide +kernel
theorem d_M_far_0 : decode b_M_far 0 = .ok (.iload_n 1, 1) := by decide +kernel
theorem d_M_far_1 : decode b_M_far 1 = .ok (.ifCond .lt 20, 3) := by decide +kernel
theorem d_M_far_4 : decode b_M_far 4 = .ok (.iload_n 1, 1) := by decide +kernel
theorem d_M_far_5 : decode b_M_far 5 = .ok (.aload_n 0, 1) := by decide +kernel
theorem d_M_far_6 : decode b_M_far 6 = .ok (.getfield 70, 3) := by decide +kernel
theorem d_M_far_9 : decode b_M_far 9 = .ok (.if_icmp .ge 12, 3) := by decide +kernel
theorem d_M_far_12 : decode b_M_far 12 = .ok (.aload_n 0, 1) := by decide +kernel
theorem d_M_far_13 : decode b_M_far 13 = .ok (.getfield 17, 3) := by decide +kernel
theorem d_M_far_16 : decode b_M_far 16 = .ok (.iload_n 1, 1) := by decide +kernel
theorem d_M_far_17 : decode b_M_far 17 = .ok (.iaload, 1) := by decide +kernel
theorem d_M_far_18 : decode b_M_far 18 = .ok (.goto 4, 3) := by decide +kernel
theorem d_M_far_21 : decode b_M_far 21 = .ok (.iconst (-1), 1) := by decide +kernel
theorem d_M_far_22 : decode b_M_far 22 = .ok (.ireturn, 1) := by decide +kernel
theorem d_M_find_0 : decode b_M_find 0 = .ok (.iconst 0, 1) := by decide +kernel
theorem d_M_find_1 : decode b_M_find 1 = .ok (.istore_n 3, 1) := by decide +kernel
theorem d_M_find_2 : decode b_M_find 2 = .ok (.iload_n 3, 1) := by decide +kernel
theorem d_M_find_3 : decode b_M_find 3 = .ok (.aload_n 0, 1) := by decide +kernel
theorem d_M_find_4 : decode b_M_find 4 = .ok (.getfield 32, 3) := by decide +kernel
theorem d_M_find_7 : decode b_M_find 7 = .ok (.if_icmp .ge 29, 3) := by decide +kernel
theorem d_M_find_10 : decode b_M_find 10 = .ok (.aload_n 0, 1) := by decide +kernel
theorem d_M_find_11 : decode b_M_find 11 = .ok (.getfield 40, 3) := by decide +kernel
theorem d_M_find_14 : decode b_M_find 14 = .ok (.ifCond .eq 16, 3) := by decide +kernel
theorem d_M_find_17 : decode b_M_find 17 = .ok (.aload_n 0, 1) := by decide +kernel
theorem d_M_find_18 : decode b_M_find 18 = .ok (.getfield 7, 3) := by decide +kernel
theorem d_M_find_21 : decode b_M_find 21 = .ok (.iload_n 3, 1) := by decide +kernel
theorem d_M_find_22 : decode b_M_find 22 = .ok (.laload, 1) := by decide +kernel
theorem d_M_find_23 : decode b_M_find 23 = .ok (.lload_n 1, 1) := by decide +kernel
theorem d_M_find_24 : decode b_M_find 24 = .ok (.lcmp, 1) := by decide +kernel
theorem d_M_find_25 : decode b_M_find 25 = .ok (.ifCond .ne 5, 3) := by decide +kernel
theorem d_M_find_28 : decode b_M_find 28 = .ok (.iload_n 3, 1) := by decide +kernel
theorem d_M_find_29 : decode b_M_find 29 = .ok (.ireturn, 1) := by decide +kernel
theorem d_M_find_30 : decode b_M_find 30 = .ok (.iinc 3 1, 3) := by decide +kernel
theorem d_M_find_33 : decode b_M_find 33 = .ok (.goto (-31), 3) := by decide +kernel
theorem d_M_find_36 : decode b_M_find 36 = .ok (.iconst (-1), 1) := by decide +kernel
theorem d_M_find_37 : decode b_M_find 37 = .ok (.ireturn, 1) := by decide +kernel
theorem d_M_isNode_0 : decode b_M_isNode 0 = .ok (.aload_n 0, 1) := by decide +kernel
theorem d_M_isNode_1 : decode b_M_isNode 1 = .ok (.getfield 40, 3) := by decide +kernel
theorem d_M_isNode_4 : decode b_M_isNode 4 = .ok (.ifCond .eq 26, 3) := by decide +kernel
theorem d_M_isNode_7 : decode b_M_isNode 7 = .ok (.iload_n 1, 1) := by decide +kernel
theorem d_M_isNode_8 : decode b_M_isNode 8 = .ok (.ifCond .lt 22, 3) := by decide +kernel
theorem d_M_isNode_11 : decode b_M_isNode 11 = .ok (.iload_n 1, 1) := by decide +kernel
theorem d_M_isNode_12 : decode b_M_isNode 12 = .ok (.aload_n 0, 1) := by decide +kernel
theorem d_M_isNode_13 : decode b_M_isNode 13 = .ok (.getfield 60, 3) := by decide +kernel
theorem d_M_isNode_16 : decode b_M_isNode 16 = .ok (.if_icmp .ge 14, 3) := by decide +kernel
theorem d_M_isNode_19 : decode b_M_isNode 19 = .ok (.aload_n 0, 1) := by decide +kernel
theorem d_M_isNode_20 : decode b_M_isNode 20 = .ok (.getfield 32, 3) := by decide +kernel
theorem d_M_isNode_23 : decode b_M_isNode 23 = .ok (.ifCond .le 7, 3) := by decide +kernel
theorem d_M_isNode_26 : decode b_M_isNode 26 = .ok (.iconst 1, 1) := by decide +kernel
theorem d_M_isNode_27 : decode b_M_isNode 27 = .ok (.goto 4, 3) := by decide +kernel
theorem d_M_isNode_30 : decode b_M_isNode 30 = .ok (.iconst 0, 1) := by decide +kernel
theorem d_M_isNode_31 : decode b_M_isNode 31 = .ok (.ireturn, 1) := by decide +kernel
theorem d_M_isWord_0 : decode b_M_isWord 0 = .ok (.lload_n 0, 1) := by decide +kernel
theorem d_M_isWord_1 : decode b_M_isWord 1 = .ok (.lconst 0, 1) := by decide +kernel
theorem d_M_isWord_2 : decode b_M_isWord 2 = .ok (.lcmp, 1) := by decide +kernel
theorem d_M_isWord_3 : decode b_M_isWord 3 = .ok (.ifCond .lt 12, 3) := by decide +kernel
theorem d_M_isWord_6 : decode b_M_isWord 6 = .ok (.lload_n 0, 1) := by decide +kernel
theorem d_M_isWord_7 : decode b_M_isWord 7 = .ok (.bipush 60, 2) := by decide +kernel
theorem d_M_isWord_9 : decode b_M_isWord 9 = .ok (.lshr, 1) := by decide +kernel
theorem d_M_isWord_10 : decode b_M_isWord 10 = .ok (.lconst 0, 1) := by decide +kernel
theorem d_M_isWord_11 : decode b_M_isWord 11 = .ok (.lcmp, 1) := by decide +kernel
theorem d_M_isWord_12 : decode b_M_isWord 12 = .ok (.ifCond .eq 5, 3) := by decide +kernel
theorem d_M_isWord_15 : decode b_M_isWord 15 = .ok (.iconst 0, 1) := by decide +kernel
theorem d_M_isWord_16 : decode b_M_isWord 16 = .ok (.ireturn, 1) := by decide +kernel
theorem d_M_isWord_17 : decode b_M_isWord 17 = .ok (.iconst 0, 1) := by decide +kernel
theorem d_M_isWord_18 : decode b_M_isWord 18 = .ok (.istore_n 2, 1) := by decide +kernel
theorem d_M_isWord_19 : decode b_M_isWord 19 = .ok (.iload_n 2, 1) := by decide +kernel
theorem d_M_isWord_20 : decode b_M_isWord 20 = .ok (.bipush 12, 2) := by decide +kernel
theorem d_M_isWord_22 : decode b_M_isWord 22 = .ok (.if_icmp .ge 45, 3) := by decide +kernel
theorem d_M_isWord_25 : decode b_M_isWord 25 = .ok (.lload_n 0, 1) := by decide +kernel
theorem d_M_isWord_26 : decode b_M_isWord 26 = .ok (.iload_n 2, 1) := by decide +kernel
theorem d_M_isWord_27 : decode b_M_isWord 27 = .ok (.invokestatic 36, 3) := by decide +kernel
theorem d_M_isWord_30 : decode b_M_isWord 30 = .ok (.bipush 26, 2) := by decide +kernel
theorem d_M_isWord_32 : decode b_M_isWord 32 = .ok (.if_icmp .le 5, 3) := by decide +kernel
theorem d_M_isWord_35 : decode b_M_isWord 35 = .ok (.iconst 0, 1) := by decide +kernel
theorem d_M_isWord_36 : decode b_M_isWord 36 = .ok (.ireturn, 1) := by decide +kernel
theorem d_M_isWord_37 : decode b_M_isWord 37 = .ok (.iload_n 2, 1) := by decide +kernel
theorem d_M_isWord_38 : decode b_M_isWord 38 = .ok (.ifCond .le 23, 3) := by decide +kernel
theorem d_M_isWord_41 : decode b_M_isWord 41 = .ok (.lload_n 0, 1) := by decide +kernel
theorem d_M_isWord_42 : decode b_M_isWord 42 = .ok (.iload_n 2, 1) := by decide +kernel
theorem d_M_isWord_43 : decode b_M_isWord 43 = .ok (.invokestatic 36, 3) := by decide +kernel
theorem d_M_isWord_46 : decode b_M_isWord 46 = .ok (.ifCond .eq 15, 3) := by decide +kernel
theorem d_M_isWord_49 : decode b_M_isWord 49 = .ok (.lload_n 0, 1) := by decide +kernel
theorem d_M_isWord_50 : decode b_M_isWord 50 = .ok (.iload_n 2, 1) := by decide +kernel
theorem d_M_isWord_51 : decode b_M_isWord 51 = .ok (.iconst 1, 1) := by decide +kernel
theorem d_M_isWord_52 : decode b_M_isWord 52 = .ok (.isub, 1) := by decide +kernel
theorem d_M_isWord_53 : decode b_M_isWord 53 = .ok (.invokestatic 36, 3) := by decide +kernel
theorem d_M_isWord_56 : decode b_M_isWord 56 = .ok (.ifCond .ne 5, 3) := by decide +kernel
theorem d_M_isWord_59 : decode b_M_isWord 59 = .ok (.iconst 0, 1) := by decide +kernel
theorem d_M_isWord_60 : decode b_M_isWord 60 = .ok (.ireturn, 1) := by decide +kernel
theorem d_M_isWord_61 : decode b_M_isWord 61 = .ok (.iinc 2 1, 3) := by decide +kernel
theorem d_M_isWord_64 : decode b_M_isWord 64 = .ok (.goto (-45), 3) := by decide +kernel
theorem d_M_isWord_67 : decode b_M_isWord 67 = .ok (.iconst 1, 1) := by decide +kernel
theorem d_M_isWord_68 : decode b_M_isWord 68 = .ok (.ireturn, 1) := by decide +kernel
theorem d_M_length_0 : decode b_M_length 0 = .ok (.iconst 0, 1) := by decide +kernel
theorem d_M_length_1 : decode b_M_length 1 = .ok (.istore_n 2, 1) := by decide +kernel
theorem d_M_length_2 : decode b_M_length 2 = .ok (.iconst 0, 1) := by decide +kernel
theorem d_M_length_3 : decode b_M_length 3 = .ok (.istore_n 3, 1) := by decide +kernel
theorem d_M_length_4 : decode b_M_length 4 = .ok (.iload_n 3, 1) := by decide +kernel
theorem d_M_length_5 : decode b_M_length 5 = .ok (.bipush 12, 2) := by decide +kernel
theorem d_M_length_7 : decode b_M_length 7 = .ok (.if_icmp .ge 21, 3) := by decide +kernel
theorem d_M_length_10 : decode b_M_length 10 = .ok (.lload_n 0, 1) := by decide +kernel
theorem d_M_length_11 : decode b_M_length 11 = .ok (.iload_n 3, 1) := by decide +kernel
theorem d_M_length_12 : decode b_M_length 12 = .ok (.invokestatic 36, 3) := by decide +kernel
theorem d_M_length_15 : decode b_M_length 15 = .ok (.ifCond .eq 7, 3) := by decide +kernel
theorem d_M_length_18 : decode b_M_length 18 = .ok (.iload_n 2, 1) := by decide +kernel
theorem d_M_length_19 : decode b_M_length 19 = .ok (.iconst 1, 1) := by decide +kernel
theorem d_M_length_20 : decode b_M_length 20 = .ok (.iadd, 1) := by decide +kernel
theorem d_M_length_21 : decode b_M_length 21 = .ok (.istore_n 2, 1) := by decide +kernel
theorem d_M_length_22 : decode b_M_length 22 = .ok (.iinc 3 1, 3) := by decide +kernel
theorem d_M_length_25 : decode b_M_length 25 = .ok (.goto (-21), 3) := by decide +kernel
theorem d_M_length_28 : decode b_M_length 28 = .ok (.iload_n 2, 1) := by decide +kernel
theorem d_M_length_29 : decode b_M_length 29 = .ok (.ireturn, 1) := by decide +kernel
theorem d_M_letter_0 : decode b_M_letter 0 = .ok (.lload_n 0, 1) := by decide +kernel
theorem d_M_letter_1 : decode b_M_letter 1 = .ok (.bipush 55, 2) := by decide +kernel
theorem d_M_letter_3 : decode b_M_letter 3 = .ok (.iconst 5, 1) := by decide +kernel
theorem d_M_letter_4 : decode b_M_letter 4 = .ok (.iload_n 2, 1) := by decide +kernel
theorem d_M_letter_5 : decode b_M_letter 5 = .ok (.imul, 1) := by decide +kernel
theorem d_M_letter_6 : decode b_M_letter 6 = .ok (.isub, 1) := by decide +kernel
theorem d_M_letter_7 : decode b_M_letter 7 = .ok (.lshr, 1) := by decide +kernel
theorem d_M_letter_8 : decode b_M_letter 8 = .ok (.l2i, 1) := by decide +kernel
theorem d_M_letter_9 : decode b_M_letter 9 = .ok (.bipush 31, 2) := by decide +kernel
theorem d_M_letter_11 : decode b_M_letter 11 = .ok (.iand, 1) := by decide +kernel
theorem d_M_letter_12 : decode b_M_letter 12 = .ok (.ireturn, 1) := by decide +kernel
theorem d_M_nodeOf_0 : decode b_M_nodeOf 0 = .ok (.iconst 0, 1) := by decide +kernel
theorem d_M_nodeOf_1 : decode b_M_nodeOf 1 = .ok (.istore_n 3, 1) := by decide +kernel
theorem d_M_nodeOf_2 : decode b_M_nodeOf 2 = .ok (.iload_n 3, 1) := by decide +kernel
theorem d_M_nodeOf_3 : decode b_M_nodeOf 3 = .ok (.aload_n 0, 1) := by decide +kernel
theorem d_M_nodeOf_4 : decode b_M_nodeOf 4 = .ok (.getfield 60, 3) := by decide +kernel
theorem d_M_nodeOf_7 : decode b_M_nodeOf 7 = .ok (.if_icmp .ge 53, 3) := by decide +kernel
theorem d_M_nodeOf_10 : decode b_M_nodeOf 10 = .ok (.aload_n 0, 1) := by decide +kernel
theorem d_M_nodeOf_11 : decode b_M_nodeOf 11 = .ok (.iload_n 1, 1) := by decide +kernel
theorem d_M_nodeOf_12 : decode b_M_nodeOf 12 = .ok (.iload_n 2, 1) := by decide +kernel
theorem d_M_nodeOf_13 : decode b_M_nodeOf 13 = .ok (.aload_n 0, 1) := by decide +kernel
theorem d_M_nodeOf_14 : decode b_M_nodeOf 14 = .ok (.getfield 23, 3) := by decide +kernel
theorem d_M_nodeOf_17 : decode b_M_nodeOf 17 = .ok (.iload_n 3, 1) := by decide +kernel
theorem d_M_nodeOf_18 : decode b_M_nodeOf 18 = .ok (.iaload, 1) := by decide +kernel
theorem d_M_nodeOf_19 : decode b_M_nodeOf 19 = .ok (.aload_n 0, 1) := by decide +kernel
theorem d_M_nodeOf_20 : decode b_M_nodeOf 20 = .ok (.getfield 26, 3) := by decide +kernel
theorem d_M_nodeOf_23 : decode b_M_nodeOf 23 = .ok (.iload_n 3, 1) := by decide +kernel
theorem d_M_nodeOf_24 : decode b_M_nodeOf 24 = .ok (.iaload, 1) := by decide +kernel
theorem d_M_nodeOf_25 : decode b_M_nodeOf 25 = .ok (.invokevirtual 63, 3) := by decide +kernel
theorem d_M_nodeOf_28 : decode b_M_nodeOf 28 = .ok (.ifCond .eq 26, 3) := by decide +kernel
theorem d_M_nodeOf_31 : decode b_M_nodeOf 31 = .ok (.aload_n 0, 1) := by decide +kernel
theorem d_M_nodeOf_32 : decode b_M_nodeOf 32 = .ok (.aload_n 0, 1) := by decide +kernel
theorem d_M_nodeOf_33 : decode b_M_nodeOf 33 = .ok (.getfield 23, 3) := by decide +kernel
theorem d_M_nodeOf_36 : decode b_M_nodeOf 36 = .ok (.iload_n 3, 1) := by decide +kernel
theorem d_M_nodeOf_37 : decode b_M_nodeOf 37 = .ok (.iaload, 1) := by decide +kernel
theorem d_M_nodeOf_38 : decode b_M_nodeOf 38 = .ok (.aload_n 0, 1) := by decide +kernel
theorem d_M_nodeOf_39 : decode b_M_nodeOf 39 = .ok (.getfield 26, 3) := by decide +kernel
theorem d_M_nodeOf_42 : decode b_M_nodeOf 42 = .ok (.iload_n 3, 1) := by decide +kernel
theorem d_M_nodeOf_43 : decode b_M_nodeOf 43 = .ok (.iaload, 1) := by decide +kernel
theorem d_M_nodeOf_44 : decode b_M_nodeOf 44 = .ok (.iload_n 1, 1) := by decide +kernel
theorem d_M_nodeOf_45 : decode b_M_nodeOf 45 = .ok (.iload_n 2, 1) := by decide +kernel
theorem d_M_nodeOf_46 : decode b_M_nodeOf 46 = .ok (.invokevirtual 63, 3) := by decide +kernel
theorem d_M_nodeOf_49 : decode b_M_nodeOf 49 = .ok (.ifCond .eq 5, 3) := by decide +kernel
theorem d_M_nodeOf_52 : decode b_M_nodeOf 52 = .ok (.iload_n 3, 1) := by decide +kernel
theorem d_M_nodeOf_53 : decode b_M_nodeOf 53 = .ok (.ireturn, 1) := by decide +kernel
theorem d_M_nodeOf_54 : decode b_M_nodeOf 54 = .ok (.iinc 3 1, 3) := by decide +kernel
theorem d_M_nodeOf_57 : decode b_M_nodeOf 57 = .ok (.goto (-55), 3) := by decide +kernel
theorem d_M_nodeOf_60 : decode b_M_nodeOf 60 = .ok (.aload_n 0, 1) := by decide +kernel
theorem d_M_nodeOf_61 : decode b_M_nodeOf 61 = .ok (.getfield 23, 3) := by decide +kernel
theorem d_M_nodeOf_64 : decode b_M_nodeOf 64 = .ok (.aload_n 0, 1) := by decide +kernel
theorem d_M_nodeOf_65 : decode b_M_nodeOf 65 = .ok (.getfield 60, 3) := by decide +kernel
theorem d_M_nodeOf_68 : decode b_M_nodeOf 68 = .ok (.iload_n 1, 1) := by decide +kernel
theorem d_M_nodeOf_69 : decode b_M_nodeOf 69 = .ok (.iastore, 1) := by decide +kernel
theorem d_M_nodeOf_70 : decode b_M_nodeOf 70 = .ok (.aload_n 0, 1) := by decide +kernel
theorem d_M_nodeOf_71 : decode b_M_nodeOf 71 = .ok (.getfield 26, 3) := by decide +kernel
theorem d_M_nodeOf_74 : decode b_M_nodeOf 74 = .ok (.aload_n 0, 1) := by decide +kernel
theorem d_M_nodeOf_75 : decode b_M_nodeOf 75 = .ok (.getfield 60, 3) := by decide +kernel
theorem d_M_nodeOf_78 : decode b_M_nodeOf 78 = .ok (.iload_n 2, 1) := by decide +kernel
theorem d_M_nodeOf_79 : decode b_M_nodeOf 79 = .ok (.iastore, 1) := by decide +kernel
theorem d_M_nodeOf_80 : decode b_M_nodeOf 80 = .ok (.aload_n 0, 1) := by decide +kernel
theorem d_M_nodeOf_81 : decode b_M_nodeOf 81 = .ok (.aload_n 0, 1) := by decide +kernel
theorem d_M_nodeOf_82 : decode b_M_nodeOf 82 = .ok (.getfield 60, 3) := by decide +kernel
theorem d_M_nodeOf_85 : decode b_M_nodeOf 85 = .ok (.iconst 1, 1) := by decide +kernel
theorem d_M_nodeOf_86 : decode b_M_nodeOf 86 = .ok (.iadd, 1) := by decide +kernel
theorem d_M_nodeOf_87 : decode b_M_nodeOf 87 = .ok (.putfield 60, 3) := by decide +kernel
theorem d_M_nodeOf_90 : decode b_M_nodeOf 90 = .ok (.aload_n 0, 1) := by decide +kernel
theorem d_M_nodeOf_91 : decode b_M_nodeOf 91 = .ok (.getfield 60, 3) := by decide +kernel
theorem d_M_nodeOf_94 : decode b_M_nodeOf 94 = .ok (.iconst 1, 1) := by decide +kernel
theorem d_M_nodeOf_95 : decode b_M_nodeOf 95 = .ok (.isub, 1) := by decide +kernel
theorem d_M_nodeOf_96 : decode b_M_nodeOf 96 = .ok (.ireturn, 1) := by decide +kernel
theorem d_M_nodes_0 : decode b_M_nodes 0 = .ok (.aload_n 0, 1) := by decide +kernel
theorem d_M_nodes_1 : decode b_M_nodes 1 = .ok (.getfield 40, 3) := by decide +kernel
theorem d_M_nodes_4 : decode b_M_nodes 4 = .ok (.ifCond .eq 10, 3) := by decide +kernel
theorem d_M_nodes_7 : decode b_M_nodes 7 = .ok (.aload_n 0, 1) := by decide +kernel
theorem d_M_nodes_8 : decode b_M_nodes 8 = .ok (.getfield 60, 3) := by decide +kernel
theorem d_M_nodes_11 : decode b_M_nodes 11 = .ok (.goto 4, 3) := by decide +kernel
theorem d_M_nodes_14 : decode b_M_nodes 14 = .ok (.iconst 0, 1) := by decide +kernel
theorem d_M_nodes_15 : decode b_M_nodes 15 = .ok (.ireturn, 1) := by decide +kernel
theorem d_M_result_0 : decode b_M_result 0 = .ok (.iload_n 1, 1) := by decide +kernel
theorem d_M_result_1 : decode b_M_result 1 = .ok (.ifCond .lt 20, 3) := by decide +kernel
theorem d_M_result_4 : decode b_M_result 4 = .ok (.iload_n 1, 1) := by decide +kernel
theorem d_M_result_5 : decode b_M_result 5 = .ok (.aload_n 0, 1) := by decide +kernel
theorem d_M_result_6 : decode b_M_result 6 = .ok (.getfield 70, 3) := by decide +kernel
theorem d_M_result_9 : decode b_M_result 9 = .ok (.if_icmp .ge 12, 3) := by decide +kernel
theorem d_M_result_12 : decode b_M_result 12 = .ok (.aload_n 0, 1) := by decide +kernel
theorem d_M_result_13 : decode b_M_result 13 = .ok (.getfield 13, 3) := by decide +kernel
theorem d_M_result_16 : decode b_M_result 16 = .ok (.iload_n 1, 1) := by decide +kernel
theorem d_M_result_17 : decode b_M_result 17 = .ok (.iaload, 1) := by decide +kernel
theorem d_M_result_18 : decode b_M_result 18 = .ok (.goto 4, 3) := by decide +kernel
theorem d_M_result_21 : decode b_M_result 21 = .ok (.iconst (-1), 1) := by decide +kernel
theorem d_M_result_22 : decode b_M_result 22 = .ok (.ireturn, 1) := by decide +kernel
theorem d_M_seal_0 : decode b_M_seal 0 = .ok (.aload_n 0, 1) := by decide +kernel
theorem d_M_seal_1 : decode b_M_seal 1 = .ok (.getfield 40, 3) := by decide +kernel
theorem d_M_seal_4 : decode b_M_seal 4 = .ok (.ifCond .eq 5, 3) := by decide +kernel
theorem d_M_seal_7 : decode b_M_seal 7 = .ok (.iconst 0, 1) := by decide +kernel
theorem d_M_seal_8 : decode b_M_seal 8 = .ok (.ireturn, 1) := by decide +kernel
theorem d_M_seal_9 : decode b_M_seal 9 = .ok (.aload_n 0, 1) := by decide +kernel
theorem d_M_seal_10 : decode b_M_seal 10 = .ok (.iconst 1, 1) := by decide +kernel
theorem d_M_seal_11 : decode b_M_seal 11 = .ok (.putfield 40, 3) := by decide +kernel
theorem d_M_seal_14 : decode b_M_seal 14 = .ok (.aload_n 0, 1) := by decide +kernel
theorem d_M_seal_15 : decode b_M_seal 15 = .ok (.aload_n 0, 1) := by decide +kernel
theorem d_M_seal_16 : decode b_M_seal 16 = .ok (.getfield 32, 3) := by decide +kernel
theorem d_M_seal_19 : decode b_M_seal 19 = .ok (.ifCond .ne 7, 3) := by decide +kernel
theorem d_M_seal_22 : decode b_M_seal 22 = .ok (.iconst 1, 1) := by decide +kernel
theorem d_M_seal_23 : decode b_M_seal 23 = .ok (.goto 4, 3) := by decide +kernel
theorem d_M_seal_26 : decode b_M_seal 26 = .ok (.iconst 0, 1) := by decide +kernel
theorem d_M_seal_27 : decode b_M_seal 27 = .ok (.putfield 60, 3) := by decide +kernel
theorem d_M_seal_30 : decode b_M_seal 30 = .ok (.iconst 0, 1) := by decide +kernel
theorem d_M_seal_31 : decode b_M_seal 31 = .ok (.istore_n 1, 1) := by decide +kernel
theorem d_M_seal_32 : decode b_M_seal 32 = .ok (.iload_n 1, 1) := by decide +kernel
theorem d_M_seal_33 : decode b_M_seal 33 = .ok (.aload_n 0, 1) := by decide +kernel
theorem d_M_seal_34 : decode b_M_seal 34 = .ok (.getfield 32, 3) := by decide +kernel
theorem d_M_seal_37 : decode b_M_seal 37 = .ok (.if_icmp .ge 47, 3) := by decide +kernel
theorem d_M_seal_40 : decode b_M_seal 40 = .ok (.iconst 0, 1) := by decide +kernel
theorem d_M_seal_41 : decode b_M_seal 41 = .ok (.istore_n 2, 1) := by decide +kernel
theorem d_M_seal_42 : decode b_M_seal 42 = .ok (.iload_n 2, 1) := by decide +kernel
theorem d_M_seal_43 : decode b_M_seal 43 = .ok (.aload_n 0, 1) := by decide +kernel
theorem d_M_seal_44 : decode b_M_seal 44 = .ok (.getfield 7, 3) := by decide +kernel
theorem d_M_seal_47 : decode b_M_seal 47 = .ok (.iload_n 1, 1) := by decide +kernel
theorem d_M_seal_48 : decode b_M_seal 48 = .ok (.laload, 1) := by decide +kernel
theorem d_M_seal_49 : decode b_M_seal 49 = .ok (.invokestatic 52, 3) := by decide +kernel
theorem d_M_seal_52 : decode b_M_seal 52 = .ok (.if_icmp .gt 26, 3) := by decide +kernel
theorem d_M_seal_55 : decode b_M_seal 55 = .ok (.aload_n 0, 1) := by decide +kernel
theorem d_M_seal_56 : decode b_M_seal 56 = .ok (.getfield 20, 3) := by decide +kernel
theorem d_M_seal_59 : decode b_M_seal 59 = .ok (.bipush 13, 2) := by decide +kernel
theorem d_M_seal_61 : decode b_M_seal 61 = .ok (.iload_n 1, 1) := by decide +kernel
theorem d_M_seal_62 : decode b_M_seal 62 = .ok (.imul, 1) := by decide +kernel
theorem d_M_seal_63 : decode b_M_seal 63 = .ok (.iload_n 2, 1) := by decide +kernel
theorem d_M_seal_64 : decode b_M_seal 64 = .ok (.iadd, 1) := by decide +kernel
theorem d_M_seal_65 : decode b_M_seal 65 = .ok (.aload_n 0, 1) := by decide +kernel
theorem d_M_seal_66 : decode b_M_seal 66 = .ok (.iload_n 1, 1) := by decide +kernel
theorem d_M_seal_67 : decode b_M_seal 67 = .ok (.iload_n 2, 1) := by decide +kernel
theorem d_M_seal_68 : decode b_M_seal 68 = .ok (.invokevirtual 66, 3) := by decide +kernel
theorem d_M_seal_71 : decode b_M_seal 71 = .ok (.iastore, 1) := by decide +kernel
theorem d_M_seal_72 : decode b_M_seal 72 = .ok (.iinc 2 1, 3) := by decide +kernel
theorem d_M_seal_75 : decode b_M_seal 75 = .ok (.goto (-33), 3) := by decide +kernel
theorem d_M_seal_78 : decode b_M_seal 78 = .ok (.iinc 1 1, 3) := by decide +kernel
theorem d_M_seal_81 : decode b_M_seal 81 = .ok (.goto (-49), 3) := by decide +kernel
theorem d_M_seal_84 : decode b_M_seal 84 = .ok (.iconst 1, 1) := by decide +kernel
theorem d_M_seal_85 : decode b_M_seal 85 = .ok (.ireturn, 1) := by decide +kernel
theorem d_M_search_0 : decode b_M_search 0 = .ok (.aload_n 0, 1) := by decide +kernel
theorem d_M_search_1 : decode b_M_search 1 = .ok (.getfield 40, 3) := by decide +kernel
theorem d_M_search_4 : decode b_M_search 4 = .ok (.ifCond .ne 5, 3) := by decide +kernel
theorem d_M_search_7 : decode b_M_search 7 = .ok (.iconst (-1), 1) := by decide +kernel
theorem d_M_search_8 : decode b_M_search 8 = .ok (.ireturn, 1) := by decide +kernel
theorem d_M_search_9 : decode b_M_search 9 = .ok (.lload_n 1, 1) := by decide +kernel
theorem d_M_search_10 : decode b_M_search 10 = .ok (.invokestatic 44, 3) := by decide +kernel
theorem d_M_search_13 : decode b_M_search 13 = .ok (.ifCond .eq 12, 3) := by decide +kernel
theorem d_M_search_16 : decode b_M_search 16 = .ok (.iload_n 3, 1) := by decide +kernel
theorem d_M_search_17 : decode b_M_search 17 = .ok (.ifCond .lt 8, 3) := by decide +kernel
theorem d_M_search_20 : decode b_M_search 20 = .ok (.iload_n 3, 1) := by decide +kernel
theorem d_M_search_21 : decode b_M_search 21 = .ok (.iconst 3, 1) := by decide +kernel
theorem d_M_search_22 : decode b_M_search 22 = .ok (.if_icmp .le 6, 3) := by decide +kernel
theorem d_M_search_25 : decode b_M_search 25 = .ok (.bipush (-2), 2) := by decide +kernel
theorem d_M_search_27 : decode b_M_search 27 = .ok (.ireturn, 1) := by decide +kernel
theorem d_M_search_28 : decode b_M_search 28 = .ok (.aload_n 0, 1) := by decide +kernel
theorem d_M_search_29 : decode b_M_search 29 = .ok (.iconst 0, 1) := by decide +kernel
theorem d_M_search_30 : decode b_M_search 30 = .ok (.putfield 70, 3) := by decide +kernel
theorem d_M_search_33 : decode b_M_search 33 = .ok (.iconst 0, 1) := by decide +kernel
theorem d_M_search_34 : decode b_M_search 34 = .ok (.istore 4, 2) := by decide +kernel
theorem d_M_search_36 : decode b_M_search 36 = .ok (.iload 4, 2) := by decide +kernel
theorem d_M_search_38 : decode b_M_search 38 = .ok (.iload_n 3, 1) := by decide +kernel
theorem d_M_search_39 : decode b_M_search 39 = .ok (.if_icmp .gt 76, 3) := by decide +kernel
theorem d_M_search_42 : decode b_M_search 42 = .ok (.iconst 0, 1) := by decide +kernel
theorem d_M_search_43 : decode b_M_search 43 = .ok (.istore 5, 2) := by decide +kernel
theorem d_M_search_45 : decode b_M_search 45 = .ok (.iload 5, 2) := by decide +kernel
theorem d_M_search_47 : decode b_M_search 47 = .ok (.aload_n 0, 1) := by decide +kernel
theorem d_M_search_48 : decode b_M_search 48 = .ok (.getfield 32, 3) := by decide +kernel
theorem d_M_search_51 : decode b_M_search 51 = .ok (.if_icmp .ge 58, 3) := by decide +kernel
theorem d_M_search_54 : decode b_M_search 54 = .ok (.aload_n 0, 1) := by decide +kernel
theorem d_M_search_55 : decode b_M_search 55 = .ok (.lload_n 1, 1) := by decide +kernel
theorem d_M_search_56 : decode b_M_search 56 = .ok (.aload_n 0, 1) := by decide +kernel
theorem d_M_search_57 : decode b_M_search 57 = .ok (.getfield 7, 3) := by decide +kernel
theorem d_M_search_60 : decode b_M_search 60 = .ok (.iload 5, 2) := by decide +kernel
theorem d_M_search_62 : decode b_M_search 62 = .ok (.laload, 1) := by decide +kernel
theorem d_M_search_63 : decode b_M_search 63 = .ok (.invokevirtual 79, 3) := by decide +kernel
theorem d_M_search_66 : decode b_M_search 66 = .ok (.iload 4, 2) := by decide +kernel
theorem d_M_search_68 : decode b_M_search 68 = .ok (.if_icmp .ne 35, 3) := by decide +kernel
theorem d_M_search_71 : decode b_M_search 71 = .ok (.aload_n 0, 1) := by decide +kernel
theorem d_M_search_72 : decode b_M_search 72 = .ok (.getfield 13, 3) := by decide +kernel
theorem d_M_search_75 : decode b_M_search 75 = .ok (.aload_n 0, 1) := by decide +kernel
theorem d_M_search_76 : decode b_M_search 76 = .ok (.getfield 70, 3) := by decide +kernel
theorem d_M_search_79 : decode b_M_search 79 = .ok (.iload 5, 2) := by decide +kernel
theorem d_M_search_81 : decode b_M_search 81 = .ok (.iastore, 1) := by decide +kernel
theorem d_M_search_82 : decode b_M_search 82 = .ok (.aload_n 0, 1) := by decide +kernel
theorem d_M_search_83 : decode b_M_search 83 = .ok (.getfield 17, 3) := by decide +kernel
theorem d_M_search_86 : decode b_M_search 86 = .ok (.aload_n 0, 1) := by decide +kernel
theorem d_M_search_87 : decode b_M_search 87 = .ok (.getfield 70, 3) := by decide +kernel
theorem d_M_search_90 : decode b_M_search 90 = .ok (.iload 4, 2) := by decide +kernel
theorem d_M_search_92 : decode b_M_search 92 = .ok (.iastore, 1) := by decide +kernel
theorem d_M_search_93 : decode b_M_search 93 = .ok (.aload_n 0, 1) := by decide +kernel
theorem d_M_search_94 : decode b_M_search 94 = .ok (.aload_n 0, 1) := by decide +kernel
theorem d_M_search_95 : decode b_M_search 95 = .ok (.getfield 70, 3) := by decide +kernel
theorem d_M_search_98 : decode b_M_search 98 = .ok (.iconst 1, 1) := by decide +kernel
theorem d_M_search_99 : decode b_M_search 99 = .ok (.iadd, 1) := by decide +kernel
theorem d_M_search_100 : decode b_M_search 100 = .ok (.putfield 70, 3) := by decide +kernel
theorem d_M_search_103 : decode b_M_search 103 = .ok (.iinc 5 1, 3) := by decide +kernel
theorem d_M_search_106 : decode b_M_search 106 = .ok (.goto (-61), 3) := by decide +kernel
theorem d_M_search_109 : decode b_M_search 109 = .ok (.iinc 4 1, 3) := by decide +kernel
theorem d_M_search_112 : decode b_M_search 112 = .ok (.goto (-76), 3) := by decide +kernel
theorem d_M_search_115 : decode b_M_search 115 = .ok (.aload_n 0, 1) := by decide +kernel
theorem d_M_search_116 : decode b_M_search 116 = .ok (.getfield 70, 3) := by decide +kernel
theorem d_M_search_119 : decode b_M_search 119 = .ok (.ireturn, 1) := by decide +kernel
theorem d_M_share_0 : decode b_M_share 0 = .ok (.iconst 0, 1) := by decide +kernel
theorem d_M_share_1 : decode b_M_share 1 = .ok (.istore 4, 2) := by decide +kernel
theorem d_M_share_3 : decode b_M_share 3 = .ok (.iload 4, 2) := by decide +kernel
theorem d_M_share_5 : decode b_M_share 5 = .ok (.iload_n 3, 1) := by decide +kernel
theorem d_M_share_6 : decode b_M_share 6 = .ok (.if_icmp .ge 50, 3) := by decide +kernel
theorem d_M_share_9 : decode b_M_share 9 = .ok (.aload_n 0, 1) := by decide +kernel
theorem d_M_share_10 : decode b_M_share 10 = .ok (.getfield 7, 3) := by decide +kernel
theorem d_M_share_13 : decode b_M_share 13 = .ok (.iload_n 1, 1) := by decide +kernel
theorem d_M_share_14 : decode b_M_share 14 = .ok (.laload, 1) := by decide +kernel
theorem d_M_share_15 : decode b_M_share 15 = .ok (.iload 4, 2) := by decide +kernel
theorem d_M_share_17 : decode b_M_share 17 = .ok (.invokestatic 36, 3) := by decide +kernel
theorem d_M_share_20 : decode b_M_share 20 = .ok (.ifCond .eq 28, 3) := by decide +kernel
theorem d_M_share_23 : decode b_M_share 23 = .ok (.aload_n 0, 1) := by decide +kernel
theorem d_M_share_24 : decode b_M_share 24 = .ok (.getfield 7, 3) := by decide +kernel
theorem d_M_share_27 : decode b_M_share 27 = .ok (.iload_n 1, 1) := by decide +kernel
theorem d_M_share_28 : decode b_M_share 28 = .ok (.laload, 1) := by decide +kernel
theorem d_M_share_29 : decode b_M_share 29 = .ok (.iload 4, 2) := by decide +kernel
theorem d_M_share_31 : decode b_M_share 31 = .ok (.invokestatic 36, 3) := by decide +kernel
theorem d_M_share_34 : decode b_M_share 34 = .ok (.aload_n 0, 1) := by decide +kernel
theorem d_M_share_35 : decode b_M_share 35 = .ok (.getfield 7, 3) := by decide +kernel
theorem d_M_share_38 : decode b_M_share 38 = .ok (.iload_n 2, 1) := by decide +kernel
theorem d_M_share_39 : decode b_M_share 39 = .ok (.laload, 1) := by decide +kernel
theorem d_M_share_40 : decode b_M_share 40 = .ok (.iload 4, 2) := by decide +kernel
theorem d_M_share_42 : decode b_M_share 42 = .ok (.invokestatic 36, 3) := by decide +kernel
theorem d_M_share_45 : decode b_M_share 45 = .ok (.if_icmp .eq 5, 3) := by decide +kernel
theorem d_M_share_48 : decode b_M_share 48 = .ok (.iconst 0, 1) := by decide +kernel
theorem d_M_share_49 : decode b_M_share 49 = .ok (.ireturn, 1) := by decide +kernel
theorem d_M_share_50 : decode b_M_share 50 = .ok (.iinc 4 1, 3) := by decide +kernel
theorem d_M_share_53 : decode b_M_share 53 = .ok (.goto (-50), 3) := by decide +kernel
theorem d_M_share_56 : decode b_M_share 56 = .ok (.iconst 1, 1) := by decide +kernel
theorem d_M_share_57 : decode b_M_share 57 = .ok (.ireturn, 1) := by decide +kernel
theorem d_M_size_0 : decode b_M_size 0 = .ok (.aload_n 0, 1) := by decide +kernel
theorem d_M_size_1 : decode b_M_size 1 = .ok (.getfield 32, 3) := by decide +kernel
theorem d_M_size_4 : decode b_M_size 4 = .ok (.ireturn, 1) := by decide +kernel
theorem d_M_step_0 : decode b_M_step 0 = .ok (.aload_n 0, 1) := by decide +kernel
theorem d_M_step_1 : decode b_M_step 1 = .ok (.iload_n 1, 1) := by decide +kernel
theorem d_M_step_2 : decode b_M_step 2 = .ok (.invokevirtual 75, 3) := by decide +kernel
theorem d_M_step_5 : decode b_M_step 5 = .ok (.ifCond .eq 25, 3) := by decide +kernel
theorem d_M_step_8 : decode b_M_step 8 = .ok (.iload_n 2, 1) := by decide +kernel
theorem d_M_step_9 : decode b_M_step 9 = .ok (.iconst 1, 1) := by decide +kernel
theorem d_M_step_10 : decode b_M_step 10 = .ok (.if_icmp .lt 20, 3) := by decide +kernel
theorem d_M_step_13 : decode b_M_step 13 = .ok (.iload_n 2, 1) := by decide +kernel
theorem d_M_step_14 : decode b_M_step 14 = .ok (.bipush 26, 2) := by decide +kernel
theorem d_M_step_16 : decode b_M_step 16 = .ok (.if_icmp .gt 14, 3) := by decide +kernel
theorem d_M_step_19 : decode b_M_step 19 = .ok (.aload_n 0, 1) := by decide +kernel
theorem d_M_step_20 : decode b_M_step 20 = .ok (.getfield 26, 3) := by decide +kernel
theorem d_M_step_23 : decode b_M_step 23 = .ok (.iload_n 1, 1) := by decide +kernel
theorem d_M_step_24 : decode b_M_step 24 = .ok (.iaload, 1) := by decide +kernel
theorem d_M_step_25 : decode b_M_step 25 = .ok (.bipush 12, 2) := by decide +kernel
theorem d_M_step_27 : decode b_M_step 27 = .ok (.if_icmp .ne 5, 3) := by decide +kernel
theorem d_M_step_30 : decode b_M_step 30 = .ok (.iconst (-1), 1) := by decide +kernel
theorem d_M_step_31 : decode b_M_step 31 = .ok (.ireturn, 1) := by decide +kernel
theorem d_M_step_32 : decode b_M_step 32 = .ok (.iconst 0, 1) := by decide +kernel
theorem d_M_step_33 : decode b_M_step 33 = .ok (.istore_n 3, 1) := by decide +kernel
theorem d_M_step_34 : decode b_M_step 34 = .ok (.iload_n 3, 1) := by decide +kernel
theorem d_M_step_35 : decode b_M_step 35 = .ok (.aload_n 0, 1) := by decide +kernel
theorem d_M_step_36 : decode b_M_step 36 = .ok (.getfield 32, 3) := by decide +kernel
theorem d_M_step_39 : decode b_M_step 39 = .ok (.if_icmp .ge 67, 3) := by decide +kernel
theorem d_M_step_42 : decode b_M_step 42 = .ok (.aload_n 0, 1) := by decide +kernel
theorem d_M_step_43 : decode b_M_step 43 = .ok (.iload_n 3, 1) := by decide +kernel
theorem d_M_step_44 : decode b_M_step 44 = .ok (.aload_n 0, 1) := by decide +kernel
theorem d_M_step_45 : decode b_M_step 45 = .ok (.getfield 23, 3) := by decide +kernel
theorem d_M_step_48 : decode b_M_step 48 = .ok (.iload_n 1, 1) := by decide +kernel
theorem d_M_step_49 : decode b_M_step 49 = .ok (.iaload, 1) := by decide +kernel
theorem d_M_step_50 : decode b_M_step 50 = .ok (.aload_n 0, 1) := by decide +kernel
theorem d_M_step_51 : decode b_M_step 51 = .ok (.getfield 26, 3) := by decide +kernel
theorem d_M_step_54 : decode b_M_step 54 = .ok (.iload_n 1, 1) := by decide +kernel
theorem d_M_step_55 : decode b_M_step 55 = .ok (.iaload, 1) := by decide +kernel
theorem d_M_step_56 : decode b_M_step 56 = .ok (.invokevirtual 48, 3) := by decide +kernel
theorem d_M_step_59 : decode b_M_step 59 = .ok (.ifCond .eq 41, 3) := by decide +kernel
theorem d_M_step_62 : decode b_M_step 62 = .ok (.aload_n 0, 1) := by decide +kernel
theorem d_M_step_63 : decode b_M_step 63 = .ok (.getfield 7, 3) := by decide +kernel
theorem d_M_step_66 : decode b_M_step 66 = .ok (.iload_n 3, 1) := by decide +kernel
theorem d_M_step_67 : decode b_M_step 67 = .ok (.laload, 1) := by decide +kernel
theorem d_M_step_68 : decode b_M_step 68 = .ok (.aload_n 0, 1) := by decide +kernel
theorem d_M_step_69 : decode b_M_step 69 = .ok (.getfield 26, 3) := by decide +kernel
theorem d_M_step_72 : decode b_M_step 72 = .ok (.iload_n 1, 1) := by decide +kernel
theorem d_M_step_73 : decode b_M_step 73 = .ok (.iaload, 1) := by decide +kernel
theorem d_M_step_74 : decode b_M_step 74 = .ok (.invokestatic 36, 3) := by decide +kernel
theorem d_M_step_77 : decode b_M_step 77 = .ok (.iload_n 2, 1) := by decide +kernel
theorem d_M_step_78 : decode b_M_step 78 = .ok (.if_icmp .ne 22, 3) := by decide +kernel
theorem d_M_step_81 : decode b_M_step 81 = .ok (.aload_n 0, 1) := by decide +kernel
theorem d_M_step_82 : decode b_M_step 82 = .ok (.getfield 20, 3) := by decide +kernel
theorem d_M_step_85 : decode b_M_step 85 = .ok (.bipush 13, 2) := by decide +kernel
theorem d_M_step_87 : decode b_M_step 87 = .ok (.iload_n 3, 1) := by decide +kernel
theorem d_M_step_88 : decode b_M_step 88 = .ok (.imul, 1) := by decide +kernel
theorem d_M_step_89 : decode b_M_step 89 = .ok (.aload_n 0, 1) := by decide +kernel
theorem d_M_step_90 : decode b_M_step 90 = .ok (.getfield 26, 3) := by decide +kernel
theorem d_M_step_93 : decode b_M_step 93 = .ok (.iload_n 1, 1) := by decide +kernel
theorem d_M_step_94 : decode b_M_step 94 = .ok (.iaload, 1) := by decide +kernel
theorem d_M_step_95 : decode b_M_step 95 = .ok (.iadd, 1) := by decide +kernel
theorem d_M_step_96 : decode b_M_step 96 = .ok (.iconst 1, 1) := by decide +kernel
theorem d_M_step_97 : decode b_M_step 97 = .ok (.iadd, 1) := by decide +kernel
theorem d_M_step_98 : decode b_M_step 98 = .ok (.iaload, 1) := by decide +kernel
theorem d_M_step_99 : decode b_M_step 99 = .ok (.ireturn, 1) := by decide +kernel
theorem d_M_step_100 : decode b_M_step 100 = .ok (.iinc 3 1, 3) := by decide +kernel
theorem d_M_step_103 : decode b_M_step 103 = .ok (.goto (-69), 3) := by decide +kernel
theorem d_M_step_106 : decode b_M_step 106 = .ok (.iconst (-1), 1) := by decide +kernel
theorem d_M_step_107 : decode b_M_step 107 = .ok (.ireturn, 1) := by decide +kernel
theorem d_M_within_0 : decode b_M_within 0 = .ok (.iconst 0, 1) := by decide +kernel
theorem d_M_within_1 : decode b_M_within 1 = .ok (.istore 5, 2) := by decide +kernel
theorem d_M_within_3 : decode b_M_within 3 = .ok (.iload 5, 2) := by decide +kernel
theorem d_M_within_5 : decode b_M_within 5 = .ok (.aload_n 0, 1) := by decide +kernel
theorem d_M_within_6 : decode b_M_within 6 = .ok (.getfield 32, 3) := by decide +kernel
theorem d_M_within_9 : decode b_M_within 9 = .ok (.if_icmp .ge 35, 3) := by decide +kernel
theorem d_M_within_12 : decode b_M_within 12 = .ok (.aload_n 0, 1) := by decide +kernel
theorem d_M_within_13 : decode b_M_within 13 = .ok (.iload 5, 2) := by decide +kernel
theorem d_M_within_15 : decode b_M_within 15 = .ok (.iload_n 1, 1) := by decide +kernel
theorem d_M_within_16 : decode b_M_within 16 = .ok (.iload_n 2, 1) := by decide +kernel
theorem d_M_within_17 : decode b_M_within 17 = .ok (.invokevirtual 48, 3) := by decide +kernel
theorem d_M_within_20 : decode b_M_within 20 = .ok (.ifCond .eq 18, 3) := by decide +kernel
theorem d_M_within_23 : decode b_M_within 23 = .ok (.aload_n 0, 1) := by decide +kernel
theorem d_M_within_24 : decode b_M_within 24 = .ok (.iload 5, 2) := by decide +kernel
theorem d_M_within_26 : decode b_M_within 26 = .ok (.iload_n 2, 1) := by decide +kernel
theorem d_M_within_27 : decode b_M_within 27 = .ok (.iload_n 3, 1) := by decide +kernel
theorem d_M_within_28 : decode b_M_within 28 = .ok (.iload 4, 2) := by decide +kernel
theorem d_M_within_30 : decode b_M_within 30 = .ok (.invokevirtual 56, 3) := by decide +kernel
theorem d_M_within_33 : decode b_M_within 33 = .ok (.ifCond .ne 5, 3) := by decide +kernel
theorem d_M_within_36 : decode b_M_within 36 = .ok (.iconst 0, 1) := by decide +kernel
theorem d_M_within_37 : decode b_M_within 37 = .ok (.ireturn, 1) := by decide +kernel
theorem d_M_within_38 : decode b_M_within 38 = .ok (.iinc 5 1, 3) := by decide +kernel
theorem d_M_within_41 : decode b_M_within 41 = .ok (.goto (-38), 3) := by decide +kernel
theorem d_M_within_44 : decode b_M_within 44 = .ok (.iconst 1, 1) := by decide +kernel
theorem d_M_within_45 : decode b_M_within 45 = .ok (.ireturn, 1) := by decide +kernel
theorem d_M_word_0 : decode b_M_word 0 = .ok (.iload_n 1, 1) := by decide +kernel
theorem d_M_word_1 : decode b_M_word 1 = .ok (.ifCond .lt 20, 3) := by decide +kernel
theorem d_M_word_4 : decode b_M_word 4 = .ok (.iload_n 1, 1) := by decide +kernel
theorem d_M_word_5 : decode b_M_word 5 = .ok (.aload_n 0, 1) := by decide +kernel
theorem d_M_word_6 : decode b_M_word 6 = .ok (.getfield 32, 3) := by decide +kernel
theorem d_M_word_9 : decode b_M_word 9 = .ok (.if_icmp .ge 12, 3) := by decide +kernel
theorem d_M_word_12 : decode b_M_word 12 = .ok (.aload_n 0, 1) := by decide +kernel
theorem d_M_word_13 : decode b_M_word 13 = .ok (.getfield 7, 3) := by decide +kernel
theorem d_M_word_16 : decode b_M_word 16 = .ok (.iload_n 1, 1) := by decide +kernel
theorem d_M_word_17 : decode b_M_word 17 = .ok (.laload, 1) := by decide +kernel
theorem d_M_word_18 : decode b_M_word 18 = .ok (.goto 6, 3) := by decide +kernel
theorem d_M_word_21 : decode b_M_word 21 = .ok (.ldc2_w 73, 3) := by decide +kernel
theorem d_M_word_24 : decode b_M_word 24 = .ok (.lreturn, 1) := by decide +kernel
