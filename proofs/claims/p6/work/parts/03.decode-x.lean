theorem d_X_init_0 : decode b_X_init 0 = .ok (.aload_n 0, 1) := by decide +kernel
theorem d_X_init_1 : decode b_X_init 1 = .ok (.invokespecial 3, 3) := by decide +kernel
theorem d_X_init_4 : decode b_X_init 4 = .ok (.aload_n 0, 1) := by decide +kernel
theorem d_X_init_5 : decode b_X_init 5 = .ok (.bipush 48, 2) := by decide +kernel
theorem d_X_init_7 : decode b_X_init 7 = .ok (.newarray .long, 2) := by decide +kernel
theorem d_X_init_9 : decode b_X_init 9 = .ok (.putfield 9, 3) := by decide +kernel
theorem d_X_init_12 : decode b_X_init 12 = .ok (.aload_n 0, 1) := by decide +kernel
theorem d_X_init_13 : decode b_X_init 13 = .ok (.bipush 48, 2) := by decide +kernel
theorem d_X_init_15 : decode b_X_init 15 = .ok (.newarray .int, 2) := by decide +kernel
theorem d_X_init_17 : decode b_X_init 17 = .ok (.putfield 13, 3) := by decide +kernel
theorem d_X_init_20 : decode b_X_init 20 = .ok (.aload_n 0, 1) := by decide +kernel
theorem d_X_init_21 : decode b_X_init 21 = .ok (.bipush 48, 2) := by decide +kernel
theorem d_X_init_23 : decode b_X_init 23 = .ok (.newarray .int, 2) := by decide +kernel
theorem d_X_init_25 : decode b_X_init 25 = .ok (.putfield 17, 3) := by decide +kernel
theorem d_X_init_28 : decode b_X_init 28 = .ok (.aload_n 0, 1) := by decide +kernel
theorem d_X_init_29 : decode b_X_init 29 = .ok (.sipush 624, 3) := by decide +kernel
theorem d_X_init_32 : decode b_X_init 32 = .ok (.newarray .int, 2) := by decide +kernel
theorem d_X_init_34 : decode b_X_init 34 = .ok (.putfield 20, 3) := by decide +kernel
theorem d_X_init_37 : decode b_X_init 37 = .ok (.aload_n 0, 1) := by decide +kernel
theorem d_X_init_38 : decode b_X_init 38 = .ok (.sipush 577, 3) := by decide +kernel
theorem d_X_init_41 : decode b_X_init 41 = .ok (.newarray .int, 2) := by decide +kernel
theorem d_X_init_43 : decode b_X_init 43 = .ok (.putfield 23, 3) := by decide +kernel
theorem d_X_init_46 : decode b_X_init 46 = .ok (.aload_n 0, 1) := by decide +kernel
theorem d_X_init_47 : decode b_X_init 47 = .ok (.sipush 577, 3) := by decide +kernel
theorem d_X_init_50 : decode b_X_init 50 = .ok (.newarray .int, 2) := by decide +kernel
theorem d_X_init_52 : decode b_X_init 52 = .ok (.putfield 26, 3) := by decide +kernel
theorem d_X_init_55 : decode b_X_init 55 = .ok (.aload_n 0, 1) := by decide +kernel
theorem d_X_init_56 : decode b_X_init 56 = .ok (.bipush 48, 2) := by decide +kernel
theorem d_X_init_58 : decode b_X_init 58 = .ok (.newarray .int, 2) := by decide +kernel
theorem d_X_init_60 : decode b_X_init 60 = .ok (.putfield 29, 3) := by decide +kernel
theorem d_X_init_63 : decode b_X_init 63 = .ok (.aload_n 0, 1) := by decide +kernel
theorem d_X_init_64 : decode b_X_init 64 = .ok (.bipush 48, 2) := by decide +kernel
theorem d_X_init_66 : decode b_X_init 66 = .ok (.newarray .int, 2) := by decide +kernel
theorem d_X_init_68 : decode b_X_init 68 = .ok (.putfield 32, 3) := by decide +kernel
theorem d_X_init_71 : decode b_X_init 71 = .ok (.aload_n 0, 1) := by decide +kernel
theorem d_X_init_72 : decode b_X_init 72 = .ok (.sipush 169, 3) := by decide +kernel
theorem d_X_init_75 : decode b_X_init 75 = .ok (.newarray .int, 2) := by decide +kernel
theorem d_X_init_77 : decode b_X_init 77 = .ok (.putfield 35, 3) := by decide +kernel
theorem d_X_init_80 : decode b_X_init 80 = .ok (.aload_n 0, 1) := by decide +kernel
theorem d_X_init_81 : decode b_X_init 81 = .ok (.bipush 48, 2) := by decide +kernel
theorem d_X_init_83 : decode b_X_init 83 = .ok (.newarray .int, 2) := by decide +kernel
theorem d_X_init_85 : decode b_X_init 85 = .ok (.putfield 38, 3) := by decide +kernel
theorem d_X_init_88 : decode b_X_init 88 = .ok (.aload_n 0, 1) := by decide +kernel
theorem d_X_init_89 : decode b_X_init 89 = .ok (.invokevirtual 41, 3) := by decide +kernel
theorem d_X_init_92 : decode b_X_init 92 = .ok (.return_, 1) := by decide +kernel
theorem d_X_add_0 : decode b_X_add 0 = .ok (.aload_n 0, 1) := by decide +kernel
theorem d_X_add_1 : decode b_X_add 1 = .ok (.getfield 44, 3) := by decide +kernel
theorem d_X_add_4 : decode b_X_add 4 = .ok (.ifCond .eq 5, 3) := by decide +kernel
theorem d_X_add_7 : decode b_X_add 7 = .ok (.iconst (-1), 1) := by decide +kernel
theorem d_X_add_8 : decode b_X_add 8 = .ok (.ireturn, 1) := by decide +kernel
theorem d_X_add_9 : decode b_X_add 9 = .ok (.lload_n 1, 1) := by decide +kernel
theorem d_X_add_10 : decode b_X_add 10 = .ok (.invokestatic 48, 3) := by decide +kernel
theorem d_X_add_13 : decode b_X_add 13 = .ok (.ifCond .ne 6, 3) := by decide +kernel
theorem d_X_add_16 : decode b_X_add 16 = .ok (.bipush (-2), 2) := by decide +kernel
theorem d_X_add_18 : decode b_X_add 18 = .ok (.ireturn, 1) := by decide +kernel
theorem d_X_add_19 : decode b_X_add 19 = .ok (.aload_n 0, 1) := by decide +kernel
theorem d_X_add_20 : decode b_X_add 20 = .ok (.getfield 52, 3) := by decide +kernel
theorem d_X_add_23 : decode b_X_add 23 = .ok (.bipush 48, 2) := by decide +kernel
theorem d_X_add_25 : decode b_X_add 25 = .ok (.if_icmp .lt 6, 3) := by decide +kernel
theorem d_X_add_28 : decode b_X_add 28 = .ok (.bipush (-3), 2) := by decide +kernel
theorem d_X_add_30 : decode b_X_add 30 = .ok (.ireturn, 1) := by decide +kernel
theorem d_X_add_31 : decode b_X_add 31 = .ok (.aload_n 0, 1) := by decide +kernel
theorem d_X_add_32 : decode b_X_add 32 = .ok (.getfield 52, 3) := by decide +kernel
theorem d_X_add_35 : decode b_X_add 35 = .ok (.ifCond .le 22, 3) := by decide +kernel
theorem d_X_add_38 : decode b_X_add 38 = .ok (.lload_n 1, 1) := by decide +kernel
theorem d_X_add_39 : decode b_X_add 39 = .ok (.aload_n 0, 1) := by decide +kernel
theorem d_X_add_40 : decode b_X_add 40 = .ok (.getfield 9, 3) := by decide +kernel
theorem d_X_add_43 : decode b_X_add 43 = .ok (.aload_n 0, 1) := by decide +kernel
theorem d_X_add_44 : decode b_X_add 44 = .ok (.getfield 52, 3) := by decide +kernel
theorem d_X_add_47 : decode b_X_add 47 = .ok (.iconst 1, 1) := by decide +kernel
theorem d_X_add_48 : decode b_X_add 48 = .ok (.isub, 1) := by decide +kernel
theorem d_X_add_49 : decode b_X_add 49 = .ok (.laload, 1) := by decide +kernel
theorem d_X_add_50 : decode b_X_add 50 = .ok (.lcmp, 1) := by decide +kernel
theorem d_X_add_51 : decode b_X_add 51 = .ok (.ifCond .gt 6, 3) := by decide +kernel
theorem d_X_add_54 : decode b_X_add 54 = .ok (.bipush (-4), 2) := by decide +kernel
theorem d_X_add_56 : decode b_X_add 56 = .ok (.ireturn, 1) := by decide +kernel
theorem d_X_add_57 : decode b_X_add 57 = .ok (.aload_n 0, 1) := by decide +kernel
theorem d_X_add_58 : decode b_X_add 58 = .ok (.getfield 9, 3) := by decide +kernel
theorem d_X_add_61 : decode b_X_add 61 = .ok (.aload_n 0, 1) := by decide +kernel
theorem d_X_add_62 : decode b_X_add 62 = .ok (.getfield 52, 3) := by decide +kernel
theorem d_X_add_65 : decode b_X_add 65 = .ok (.lload_n 1, 1) := by decide +kernel
theorem d_X_add_66 : decode b_X_add 66 = .ok (.lastore, 1) := by decide +kernel
theorem d_X_add_67 : decode b_X_add 67 = .ok (.aload_n 0, 1) := by decide +kernel
theorem d_X_add_68 : decode b_X_add 68 = .ok (.getfield 13, 3) := by decide +kernel
theorem d_X_add_71 : decode b_X_add 71 = .ok (.aload_n 0, 1) := by decide +kernel
theorem d_X_add_72 : decode b_X_add 72 = .ok (.getfield 52, 3) := by decide +kernel
theorem d_X_add_75 : decode b_X_add 75 = .ok (.lload_n 1, 1) := by decide +kernel
theorem d_X_add_76 : decode b_X_add 76 = .ok (.invokestatic 56, 3) := by decide +kernel
theorem d_X_add_79 : decode b_X_add 79 = .ok (.iastore, 1) := by decide +kernel
theorem d_X_add_80 : decode b_X_add 80 = .ok (.aload_n 0, 1) := by decide +kernel
theorem d_X_add_81 : decode b_X_add 81 = .ok (.getfield 17, 3) := by decide +kernel
theorem d_X_add_84 : decode b_X_add 84 = .ok (.aload_n 0, 1) := by decide +kernel
theorem d_X_add_85 : decode b_X_add 85 = .ok (.getfield 52, 3) := by decide +kernel
theorem d_X_add_88 : decode b_X_add 88 = .ok (.aload_n 0, 1) := by decide +kernel
theorem d_X_add_89 : decode b_X_add 89 = .ok (.getfield 52, 3) := by decide +kernel
theorem d_X_add_92 : decode b_X_add 92 = .ok (.ifCond .ne 7, 3) := by decide +kernel
theorem d_X_add_95 : decode b_X_add 95 = .ok (.iconst 0, 1) := by decide +kernel
theorem d_X_add_96 : decode b_X_add 96 = .ok (.goto 20, 3) := by decide +kernel
theorem d_X_add_99 : decode b_X_add 99 = .ok (.aload_n 0, 1) := by decide +kernel
theorem d_X_add_100 : decode b_X_add 100 = .ok (.getfield 9, 3) := by decide +kernel
theorem d_X_add_103 : decode b_X_add 103 = .ok (.aload_n 0, 1) := by decide +kernel
theorem d_X_add_104 : decode b_X_add 104 = .ok (.getfield 52, 3) := by decide +kernel
theorem d_X_add_107 : decode b_X_add 107 = .ok (.iconst 1, 1) := by decide +kernel
theorem d_X_add_108 : decode b_X_add 108 = .ok (.isub, 1) := by decide +kernel
theorem d_X_add_109 : decode b_X_add 109 = .ok (.laload, 1) := by decide +kernel
theorem d_X_add_110 : decode b_X_add 110 = .ok (.lload_n 1, 1) := by decide +kernel
theorem d_X_add_111 : decode b_X_add 111 = .ok (.invokestatic 60, 3) := by decide +kernel
theorem d_X_add_114 : decode b_X_add 114 = .ok (.iconst 1, 1) := by decide +kernel
theorem d_X_add_115 : decode b_X_add 115 = .ok (.iadd, 1) := by decide +kernel
theorem d_X_add_116 : decode b_X_add 116 = .ok (.iastore, 1) := by decide +kernel
theorem d_X_add_117 : decode b_X_add 117 = .ok (.aload_n 0, 1) := by decide +kernel
theorem d_X_add_118 : decode b_X_add 118 = .ok (.dup, 1) := by decide +kernel
theorem d_X_add_119 : decode b_X_add 119 = .ok (.getfield 52, 3) := by decide +kernel
theorem d_X_add_122 : decode b_X_add 122 = .ok (.iconst 1, 1) := by decide +kernel
theorem d_X_add_123 : decode b_X_add 123 = .ok (.iadd, 1) := by decide +kernel
theorem d_X_add_124 : decode b_X_add 124 = .ok (.putfield 52, 3) := by decide +kernel
theorem d_X_add_127 : decode b_X_add 127 = .ok (.iconst 0, 1) := by decide +kernel
theorem d_X_add_128 : decode b_X_add 128 = .ok (.ireturn, 1) := by decide +kernel
theorem d_X_beginsAs_0 : decode b_X_beginsAs 0 = .ok (.aload_n 0, 1) := by decide +kernel
theorem d_X_beginsAs_1 : decode b_X_beginsAs 1 = .ok (.getfield 9, 3) := by decide +kernel
theorem d_X_beginsAs_4 : decode b_X_beginsAs 4 = .ok (.iload_n 1, 1) := by decide +kernel
theorem d_X_beginsAs_5 : decode b_X_beginsAs 5 = .ok (.laload, 1) := by decide +kernel
theorem d_X_beginsAs_6 : decode b_X_beginsAs 6 = .ok (.aload_n 0, 1) := by decide +kernel
theorem d_X_beginsAs_7 : decode b_X_beginsAs 7 = .ok (.getfield 9, 3) := by decide +kernel
theorem d_X_beginsAs_10 : decode b_X_beginsAs 10 = .ok (.iload_n 2, 1) := by decide +kernel
theorem d_X_beginsAs_11 : decode b_X_beginsAs 11 = .ok (.laload, 1) := by decide +kernel
theorem d_X_beginsAs_12 : decode b_X_beginsAs 12 = .ok (.lxor, 1) := by decide +kernel
theorem d_X_beginsAs_13 : decode b_X_beginsAs 13 = .ok (.bipush 60, 2) := by decide +kernel
theorem d_X_beginsAs_15 : decode b_X_beginsAs 15 = .ok (.iconst 5, 1) := by decide +kernel
theorem d_X_beginsAs_16 : decode b_X_beginsAs 16 = .ok (.iload_n 3, 1) := by decide +kernel
theorem d_X_beginsAs_17 : decode b_X_beginsAs 17 = .ok (.imul, 1) := by decide +kernel
theorem d_X_beginsAs_18 : decode b_X_beginsAs 18 = .ok (.isub, 1) := by decide +kernel
theorem d_X_beginsAs_19 : decode b_X_beginsAs 19 = .ok (.lushr, 1) := by decide +kernel
theorem d_X_beginsAs_20 : decode b_X_beginsAs 20 = .ok (.lconst 0, 1) := by decide +kernel
theorem d_X_beginsAs_21 : decode b_X_beginsAs 21 = .ok (.lcmp, 1) := by decide +kernel
theorem d_X_beginsAs_22 : decode b_X_beginsAs 22 = .ok (.ifCond .ne 7, 3) := by decide +kernel
theorem d_X_beginsAs_25 : decode b_X_beginsAs 25 = .ok (.iconst 1, 1) := by decide +kernel
theorem d_X_beginsAs_26 : decode b_X_beginsAs 26 = .ok (.goto 4, 3) := by decide +kernel
theorem d_X_beginsAs_29 : decode b_X_beginsAs 29 = .ok (.iconst 0, 1) := by decide +kernel
theorem d_X_beginsAs_30 : decode b_X_beginsAs 30 = .ok (.ireturn, 1) := by decide +kernel
theorem d_X_clear_0 : decode b_X_clear 0 = .ok (.aload_n 0, 1) := by decide +kernel
theorem d_X_clear_1 : decode b_X_clear 1 = .ok (.iconst 0, 1) := by decide +kernel
theorem d_X_clear_2 : decode b_X_clear 2 = .ok (.putfield 52, 3) := by decide +kernel
theorem d_X_clear_5 : decode b_X_clear 5 = .ok (.aload_n 0, 1) := by decide +kernel
theorem d_X_clear_6 : decode b_X_clear 6 = .ok (.iconst 0, 1) := by decide +kernel
theorem d_X_clear_7 : decode b_X_clear 7 = .ok (.putfield 44, 3) := by decide +kernel
theorem d_X_clear_10 : decode b_X_clear 10 = .ok (.aload_n 0, 1) := by decide +kernel
theorem d_X_clear_11 : decode b_X_clear 11 = .ok (.iconst 0, 1) := by decide +kernel
theorem d_X_clear_12 : decode b_X_clear 12 = .ok (.putfield 72, 3) := by decide +kernel
theorem d_X_clear_15 : decode b_X_clear 15 = .ok (.aload_n 0, 1) := by decide +kernel
theorem d_X_clear_16 : decode b_X_clear 16 = .ok (.iconst 0, 1) := by decide +kernel
theorem d_X_clear_17 : decode b_X_clear 17 = .ok (.putfield 75, 3) := by decide +kernel
theorem d_X_clear_20 : decode b_X_clear 20 = .ok (.return_, 1) := by decide +kernel
theorem d_X_distance_0 : decode b_X_distance 0 = .ok (.lload_n 1, 1) := by decide +kernel
theorem d_X_distance_1 : decode b_X_distance 1 = .ok (.invokestatic 48, 3) := by decide +kernel
theorem d_X_distance_4 : decode b_X_distance 4 = .ok (.ifCond .eq 11, 3) := by decide +kernel
theorem d_X_distance_7 : decode b_X_distance 7 = .ok (.aload_n 0, 1) := by decide +kernel
theorem d_X_distance_8 : decode b_X_distance 8 = .ok (.iload_n 3, 1) := by decide +kernel
theorem d_X_distance_9 : decode b_X_distance 9 = .ok (.invokevirtual 78, 3) := by decide +kernel
theorem d_X_distance_12 : decode b_X_distance 12 = .ok (.ifCond .ne 5, 3) := by decide +kernel
theorem d_X_distance_15 : decode b_X_distance 15 = .ok (.iconst (-1), 1) := by decide +kernel
theorem d_X_distance_16 : decode b_X_distance 16 = .ok (.ireturn, 1) := by decide +kernel
theorem d_X_distance_17 : decode b_X_distance 17 = .ok (.lload_n 1, 1) := by decide +kernel
theorem d_X_distance_18 : decode b_X_distance 18 = .ok (.invokestatic 56, 3) := by decide +kernel
theorem d_X_distance_21 : decode b_X_distance 21 = .ok (.istore 4, 2) := by decide +kernel
theorem d_X_distance_23 : decode b_X_distance 23 = .ok (.aload_n 0, 1) := by decide +kernel
theorem d_X_distance_24 : decode b_X_distance 24 = .ok (.iload 4, 2) := by decide +kernel
theorem d_X_distance_26 : decode b_X_distance 26 = .ok (.invokevirtual 95, 3) := by decide +kernel
theorem d_X_distance_29 : decode b_X_distance 29 = .ok (.aload_n 0, 1) := by decide +kernel
theorem d_X_distance_30 : decode b_X_distance 30 = .ok (.iload_n 3, 1) := by decide +kernel
theorem d_X_distance_31 : decode b_X_distance 31 = .ok (.iconst 1, 1) := by decide +kernel
theorem d_X_distance_32 : decode b_X_distance 32 = .ok (.lload_n 1, 1) := by decide +kernel
theorem d_X_distance_33 : decode b_X_distance 33 = .ok (.iload 4, 2) := by decide +kernel
theorem d_X_distance_35 : decode b_X_distance 35 = .ok (.invokevirtual 98, 3) := by decide +kernel
theorem d_X_distance_38 : decode b_X_distance 38 = .ok (.ireturn, 1) := by decide +kernel
theorem d_X_earlierNode_0 : decode b_X_earlierNode 0 = .ok (.aload_n 0, 1) := by decide +kernel
theorem d_X_earlierNode_1 : decode b_X_earlierNode 1 = .ok (.getfield 13, 3) := by decide +kernel
theorem d_X_earlierNode_4 : decode b_X_earlierNode 4 = .ok (.iload_n 1, 1) := by decide +kernel
theorem d_X_earlierNode_5 : decode b_X_earlierNode 5 = .ok (.iaload, 1) := by decide +kernel
theorem d_X_earlierNode_6 : decode b_X_earlierNode 6 = .ok (.iload_n 2, 1) := by decide +kernel
theorem d_X_earlierNode_7 : decode b_X_earlierNode 7 = .ok (.isub, 1) := by decide +kernel
theorem d_X_earlierNode_8 : decode b_X_earlierNode 8 = .ok (.istore_n 3, 1) := by decide +kernel
theorem d_X_earlierNode_9 : decode b_X_earlierNode 9 = .ok (.iconst 0, 1) := by decide +kernel
theorem d_X_earlierNode_10 : decode b_X_earlierNode 10 = .ok (.istore 4, 2) := by decide +kernel
theorem d_X_earlierNode_12 : decode b_X_earlierNode 12 = .ok (.iload 4, 2) := by decide +kernel
theorem d_X_earlierNode_14 : decode b_X_earlierNode 14 = .ok (.iload_n 1, 1) := by decide +kernel
theorem d_X_earlierNode_15 : decode b_X_earlierNode 15 = .ok (.if_icmp .ge 59, 3) := by decide +kernel
theorem d_X_earlierNode_18 : decode b_X_earlierNode 18 = .ok (.aload_n 0, 1) := by decide +kernel
theorem d_X_earlierNode_19 : decode b_X_earlierNode 19 = .ok (.getfield 13, 3) := by decide +kernel
theorem d_X_earlierNode_22 : decode b_X_earlierNode 22 = .ok (.iload 4, 2) := by decide +kernel
theorem d_X_earlierNode_24 : decode b_X_earlierNode 24 = .ok (.iaload, 1) := by decide +kernel
theorem d_X_earlierNode_25 : decode b_X_earlierNode 25 = .ok (.iload_n 3, 1) := by decide +kernel
theorem d_X_earlierNode_26 : decode b_X_earlierNode 26 = .ok (.isub, 1) := by decide +kernel
theorem d_X_earlierNode_27 : decode b_X_earlierNode 27 = .ok (.istore 5, 2) := by decide +kernel
theorem d_X_earlierNode_29 : decode b_X_earlierNode 29 = .ok (.iload 5, 2) := by decide +kernel
theorem d_X_earlierNode_31 : decode b_X_earlierNode 31 = .ok (.aload_n 0, 1) := by decide +kernel
theorem d_X_earlierNode_32 : decode b_X_earlierNode 32 = .ok (.getfield 17, 3) := by decide +kernel
theorem d_X_earlierNode_35 : decode b_X_earlierNode 35 = .ok (.iload 4, 2) := by decide +kernel
theorem d_X_earlierNode_37 : decode b_X_earlierNode 37 = .ok (.iaload, 1) := by decide +kernel
theorem d_X_earlierNode_38 : decode b_X_earlierNode 38 = .ok (.if_icmp .lt 30, 3) := by decide +kernel
theorem d_X_earlierNode_41 : decode b_X_earlierNode 41 = .ok (.aload_n 0, 1) := by decide +kernel
theorem d_X_earlierNode_42 : decode b_X_earlierNode 42 = .ok (.iload_n 1, 1) := by decide +kernel
theorem d_X_earlierNode_43 : decode b_X_earlierNode 43 = .ok (.iload_n 2, 1) := by decide +kernel
theorem d_X_earlierNode_44 : decode b_X_earlierNode 44 = .ok (.iload 4, 2) := by decide +kernel
theorem d_X_earlierNode_46 : decode b_X_earlierNode 46 = .ok (.iload 5, 2) := by decide +kernel
theorem d_X_earlierNode_48 : decode b_X_earlierNode 48 = .ok (.invokevirtual 121, 3) := by decide +kernel
theorem d_X_earlierNode_51 : decode b_X_earlierNode 51 = .ok (.ifCond .eq 17, 3) := by decide +kernel
theorem d_X_earlierNode_54 : decode b_X_earlierNode 54 = .ok (.aload_n 0, 1) := by decide +kernel
theorem d_X_earlierNode_55 : decode b_X_earlierNode 55 = .ok (.getfield 20, 3) := by decide +kernel
theorem d_X_earlierNode_58 : decode b_X_earlierNode 58 = .ok (.iload 4, 2) := by decide +kernel
theorem d_X_earlierNode_60 : decode b_X_earlierNode 60 = .ok (.bipush 13, 2) := by decide +kernel
theorem d_X_earlierNode_62 : decode b_X_earlierNode 62 = .ok (.imul, 1) := by decide +kernel
theorem d_X_earlierNode_63 : decode b_X_earlierNode 63 = .ok (.iload 5, 2) := by decide +kernel
theorem d_X_earlierNode_65 : decode b_X_earlierNode 65 = .ok (.iadd, 1) := by decide +kernel
theorem d_X_earlierNode_66 : decode b_X_earlierNode 66 = .ok (.iaload, 1) := by decide +kernel
theorem d_X_earlierNode_67 : decode b_X_earlierNode 67 = .ok (.ireturn, 1) := by decide +kernel
theorem d_X_earlierNode_68 : decode b_X_earlierNode 68 = .ok (.iinc 4 1, 3) := by decide +kernel
theorem d_X_earlierNode_71 : decode b_X_earlierNode 71 = .ok (.goto (-59), 3) := by decide +kernel
theorem d_X_earlierNode_74 : decode b_X_earlierNode 74 = .ok (.iconst (-1), 1) := by decide +kernel
theorem d_X_earlierNode_75 : decode b_X_earlierNode 75 = .ok (.ireturn, 1) := by decide +kernel
theorem d_X_endings_0 : decode b_X_endings 0 = .ok (.aload_n 0, 1) := by decide +kernel
theorem d_X_endings_1 : decode b_X_endings 1 = .ok (.iload_n 1, 1) := by decide +kernel
theorem d_X_endings_2 : decode b_X_endings 2 = .ok (.invokevirtual 84, 3) := by decide +kernel
theorem d_X_endings_5 : decode b_X_endings 5 = .ok (.ifCond .ne 5, 3) := by decide +kernel
theorem d_X_endings_8 : decode b_X_endings 8 = .ok (.iconst 0, 1) := by decide +kernel
theorem d_X_endings_9 : decode b_X_endings 9 = .ok (.ireturn, 1) := by decide +kernel
theorem d_X_endings_10 : decode b_X_endings 10 = .ok (.aload_n 0, 1) := by decide +kernel
theorem d_X_endings_11 : decode b_X_endings 11 = .ok (.getfield 23, 3) := by decide +kernel
theorem d_X_endings_14 : decode b_X_endings 14 = .ok (.iload_n 1, 1) := by decide +kernel
theorem d_X_endings_15 : decode b_X_endings 15 = .ok (.iaload, 1) := by decide +kernel
theorem d_X_endings_16 : decode b_X_endings 16 = .ok (.istore_n 2, 1) := by decide +kernel
theorem d_X_endings_17 : decode b_X_endings 17 = .ok (.iconst 0, 1) := by decide +kernel
theorem d_X_endings_18 : decode b_X_endings 18 = .ok (.istore_n 3, 1) := by decide +kernel
theorem d_X_endings_19 : decode b_X_endings 19 = .ok (.iload_n 2, 1) := by decide +kernel
theorem d_X_endings_20 : decode b_X_endings 20 = .ok (.istore 4, 2) := by decide +kernel
theorem d_X_endings_22 : decode b_X_endings 22 = .ok (.iload 4, 2) := by decide +kernel
theorem d_X_endings_24 : decode b_X_endings 24 = .ok (.aload_n 0, 1) := by decide +kernel
theorem d_X_endings_25 : decode b_X_endings 25 = .ok (.getfield 52, 3) := by decide +kernel
theorem d_X_endings_28 : decode b_X_endings 28 = .ok (.if_icmp .ge 28, 3) := by decide +kernel
theorem d_X_endings_31 : decode b_X_endings 31 = .ok (.aload_n 0, 1) := by decide +kernel
theorem d_X_endings_32 : decode b_X_endings 32 = .ok (.iload 4, 2) := by decide +kernel
theorem d_X_endings_34 : decode b_X_endings 34 = .ok (.iload_n 2, 1) := by decide +kernel
theorem d_X_endings_35 : decode b_X_endings 35 = .ok (.aload_n 0, 1) := by decide +kernel
theorem d_X_endings_36 : decode b_X_endings 36 = .ok (.getfield 26, 3) := by decide +kernel
theorem d_X_endings_39 : decode b_X_endings 39 = .ok (.iload_n 1, 1) := by decide +kernel
theorem d_X_endings_40 : decode b_X_endings 40 = .ok (.iaload, 1) := by decide +kernel
theorem d_X_endings_41 : decode b_X_endings 41 = .ok (.invokevirtual 87, 3) := by decide +kernel
theorem d_X_endings_44 : decode b_X_endings 44 = .ok (.ifCond .eq 12, 3) := by decide +kernel
theorem d_X_endings_47 : decode b_X_endings 47 = .ok (.iinc 3 1, 3) := by decide +kernel
theorem d_X_endings_50 : decode b_X_endings 50 = .ok (.iinc 4 1, 3) := by decide +kernel
theorem d_X_endings_53 : decode b_X_endings 53 = .ok (.goto (-31), 3) := by decide +kernel
theorem d_X_endings_56 : decode b_X_endings 56 = .ok (.iload_n 3, 1) := by decide +kernel
theorem d_X_endings_57 : decode b_X_endings 57 = .ok (.ireturn, 1) := by decide +kernel
theorem d_X_ends_0 : decode b_X_ends 0 = .ok (.aload_n 0, 1) := by decide +kernel
theorem d_X_ends_1 : decode b_X_ends 1 = .ok (.iload_n 1, 1) := by decide +kernel
theorem d_X_ends_2 : decode b_X_ends 2 = .ok (.invokevirtual 84, 3) := by decide +kernel
theorem d_X_ends_5 : decode b_X_ends 5 = .ok (.ifCond .ne 5, 3) := by decide +kernel
theorem d_X_ends_8 : decode b_X_ends 8 = .ok (.iconst 0, 1) := by decide +kernel
theorem d_X_ends_9 : decode b_X_ends 9 = .ok (.ireturn, 1) := by decide +kernel
theorem d_X_ends_10 : decode b_X_ends 10 = .ok (.aload_n 0, 1) := by decide +kernel
theorem d_X_ends_11 : decode b_X_ends 11 = .ok (.getfield 23, 3) := by decide +kernel
theorem d_X_ends_14 : decode b_X_ends 14 = .ok (.iload_n 1, 1) := by decide +kernel
theorem d_X_ends_15 : decode b_X_ends 15 = .ok (.iaload, 1) := by decide +kernel
theorem d_X_ends_16 : decode b_X_ends 16 = .ok (.istore_n 2, 1) := by decide +kernel
theorem d_X_ends_17 : decode b_X_ends 17 = .ok (.iload_n 2, 1) := by decide +kernel
theorem d_X_ends_18 : decode b_X_ends 18 = .ok (.aload_n 0, 1) := by decide +kernel
theorem d_X_ends_19 : decode b_X_ends 19 = .ok (.getfield 52, 3) := by decide +kernel
theorem d_X_ends_22 : decode b_X_ends 22 = .ok (.if_icmp .ge 22, 3) := by decide +kernel
theorem d_X_ends_25 : decode b_X_ends 25 = .ok (.aload_n 0, 1) := by decide +kernel
theorem d_X_ends_26 : decode b_X_ends 26 = .ok (.getfield 13, 3) := by decide +kernel
theorem d_X_ends_29 : decode b_X_ends 29 = .ok (.iload_n 2, 1) := by decide +kernel
theorem d_X_ends_30 : decode b_X_ends 30 = .ok (.iaload, 1) := by decide +kernel
theorem d_X_ends_31 : decode b_X_ends 31 = .ok (.aload_n 0, 1) := by decide +kernel
theorem d_X_ends_32 : decode b_X_ends 32 = .ok (.getfield 26, 3) := by decide +kernel
theorem d_X_ends_35 : decode b_X_ends 35 = .ok (.iload_n 1, 1) := by decide +kernel
theorem d_X_ends_36 : decode b_X_ends 36 = .ok (.iaload, 1) := by decide +kernel
theorem d_X_ends_37 : decode b_X_ends 37 = .ok (.if_icmp .ne 7, 3) := by decide +kernel
theorem d_X_ends_40 : decode b_X_ends 40 = .ok (.iconst 1, 1) := by decide +kernel
theorem d_X_ends_41 : decode b_X_ends 41 = .ok (.goto 4, 3) := by decide +kernel
theorem d_X_ends_44 : decode b_X_ends 44 = .ok (.iconst 0, 1) := by decide +kernel
theorem d_X_ends_45 : decode b_X_ends 45 = .ok (.ireturn, 1) := by decide +kernel
theorem d_X_far_0 : decode b_X_far 0 = .ok (.aload_n 0, 1) := by decide +kernel
theorem d_X_far_1 : decode b_X_far 1 = .ok (.iload_n 1, 1) := by decide +kernel
theorem d_X_far_2 : decode b_X_far 2 = .ok (.invokevirtual 109, 3) := by decide +kernel
theorem d_X_far_5 : decode b_X_far 5 = .ok (.ifCond .eq 12, 3) := by decide +kernel
theorem d_X_far_8 : decode b_X_far 8 = .ok (.aload_n 0, 1) := by decide +kernel
theorem d_X_far_9 : decode b_X_far 9 = .ok (.getfield 32, 3) := by decide +kernel
theorem d_X_far_12 : decode b_X_far 12 = .ok (.iload_n 1, 1) := by decide +kernel
theorem d_X_far_13 : decode b_X_far 13 = .ok (.iaload, 1) := by decide +kernel
theorem d_X_far_14 : decode b_X_far 14 = .ok (.goto 4, 3) := by decide +kernel
theorem d_X_far_17 : decode b_X_far 17 = .ok (.iconst (-1), 1) := by decide +kernel
theorem d_X_far_18 : decode b_X_far 18 = .ok (.ireturn, 1) := by decide +kernel
theorem d_X_farOfWord_0 : decode b_X_farOfWord 0 = .ok (.iload_n 2, 1) := by decide +kernel
theorem d_X_farOfWord_1 : decode b_X_farOfWord 1 = .ok (.istore 6, 2) := by decide +kernel
theorem d_X_farOfWord_3 : decode b_X_farOfWord 3 = .ok (.iload 6, 2) := by decide +kernel
theorem d_X_farOfWord_5 : decode b_X_farOfWord 5 = .ok (.aload_n 0, 1) := by decide +kernel
theorem d_X_farOfWord_6 : decode b_X_farOfWord 6 = .ok (.getfield 13, 3) := by decide +kernel
theorem d_X_farOfWord_9 : decode b_X_farOfWord 9 = .ok (.iload_n 1, 1) := by decide +kernel
theorem d_X_farOfWord_10 : decode b_X_farOfWord 10 = .ok (.iaload, 1) := by decide +kernel
theorem d_X_farOfWord_11 : decode b_X_farOfWord 11 = .ok (.if_icmp .gt 31, 3) := by decide +kernel
theorem d_X_farOfWord_14 : decode b_X_farOfWord 14 = .ok (.aload_n 0, 1) := by decide +kernel
theorem d_X_farOfWord_15 : decode b_X_farOfWord 15 = .ok (.iload 6, 2) := by decide +kernel
theorem d_X_farOfWord_17 : decode b_X_farOfWord 17 = .ok (.aload_n 0, 1) := by decide +kernel
theorem d_X_farOfWord_18 : decode b_X_farOfWord 18 = .ok (.getfield 9, 3) := by decide +kernel
theorem d_X_farOfWord_21 : decode b_X_farOfWord 21 = .ok (.iload_n 1, 1) := by decide +kernel
theorem d_X_farOfWord_22 : decode b_X_farOfWord 22 = .ok (.laload, 1) := by decide +kernel
theorem d_X_farOfWord_23 : decode b_X_farOfWord 23 = .ok (.iload 6, 2) := by decide +kernel
theorem d_X_farOfWord_25 : decode b_X_farOfWord 25 = .ok (.iconst 1, 1) := by decide +kernel
theorem d_X_farOfWord_26 : decode b_X_farOfWord 26 = .ok (.isub, 1) := by decide +kernel
theorem d_X_farOfWord_27 : decode b_X_farOfWord 27 = .ok (.invokestatic 91, 3) := by decide +kernel
theorem d_X_farOfWord_30 : decode b_X_farOfWord 30 = .ok (.lload_n 3, 1) := by decide +kernel
theorem d_X_farOfWord_31 : decode b_X_farOfWord 31 = .ok (.iload 5, 2) := by decide +kernel
theorem d_X_farOfWord_33 : decode b_X_farOfWord 33 = .ok (.invokevirtual 130, 3) := by decide +kernel
theorem d_X_farOfWord_36 : decode b_X_farOfWord 36 = .ok (.iinc 6 1, 3) := by decide +kernel
theorem d_X_farOfWord_39 : decode b_X_farOfWord 39 = .ok (.goto (-36), 3) := by decide +kernel
theorem d_X_farOfWord_42 : decode b_X_farOfWord 42 = .ok (.aload_n 0, 1) := by decide +kernel
theorem d_X_farOfWord_43 : decode b_X_farOfWord 43 = .ok (.getfield 35, 3) := by decide +kernel
theorem d_X_farOfWord_46 : decode b_X_farOfWord 46 = .ok (.aload_n 0, 1) := by decide +kernel
theorem d_X_farOfWord_47 : decode b_X_farOfWord 47 = .ok (.getfield 13, 3) := by decide +kernel
theorem d_X_farOfWord_50 : decode b_X_farOfWord 50 = .ok (.iload_n 1, 1) := by decide +kernel
theorem d_X_farOfWord_51 : decode b_X_farOfWord 51 = .ok (.iaload, 1) := by decide +kernel
theorem d_X_farOfWord_52 : decode b_X_farOfWord 52 = .ok (.bipush 13, 2) := by decide +kernel
theorem d_X_farOfWord_54 : decode b_X_farOfWord 54 = .ok (.imul, 1) := by decide +kernel
theorem d_X_farOfWord_55 : decode b_X_farOfWord 55 = .ok (.iload 5, 2) := by decide +kernel
theorem d_X_farOfWord_57 : decode b_X_farOfWord 57 = .ok (.iadd, 1) := by decide +kernel
theorem d_X_farOfWord_58 : decode b_X_farOfWord 58 = .ok (.iaload, 1) := by decide +kernel
theorem d_X_farOfWord_59 : decode b_X_farOfWord 59 = .ok (.ireturn, 1) := by decide +kernel
theorem d_X_fillFirstRow_0 : decode b_X_fillFirstRow 0 = .ok (.iconst 0, 1) := by decide +kernel
theorem d_X_fillFirstRow_1 : decode b_X_fillFirstRow 1 = .ok (.istore_n 2, 1) := by decide +kernel
theorem d_X_fillFirstRow_2 : decode b_X_fillFirstRow 2 = .ok (.iload_n 2, 1) := by decide +kernel
theorem d_X_fillFirstRow_3 : decode b_X_fillFirstRow 3 = .ok (.iload_n 1, 1) := by decide +kernel
theorem d_X_fillFirstRow_4 : decode b_X_fillFirstRow 4 = .ok (.if_icmp .gt 16, 3) := by decide +kernel
theorem d_X_fillFirstRow_7 : decode b_X_fillFirstRow 7 = .ok (.aload_n 0, 1) := by decide +kernel
theorem d_X_fillFirstRow_8 : decode b_X_fillFirstRow 8 = .ok (.getfield 35, 3) := by decide +kernel
theorem d_X_fillFirstRow_11 : decode b_X_fillFirstRow 11 = .ok (.iload_n 2, 1) := by decide +kernel
theorem d_X_fillFirstRow_12 : decode b_X_fillFirstRow 12 = .ok (.iload_n 2, 1) := by decide +kernel
theorem d_X_fillFirstRow_13 : decode b_X_fillFirstRow 13 = .ok (.iastore, 1) := by decide +kernel
theorem d_X_fillFirstRow_14 : decode b_X_fillFirstRow 14 = .ok (.iinc 2 1, 3) := by decide +kernel
theorem d_X_fillFirstRow_17 : decode b_X_fillFirstRow 17 = .ok (.goto (-15), 3) := by decide +kernel
theorem d_X_fillFirstRow_20 : decode b_X_fillFirstRow 20 = .ok (.return_, 1) := by decide +kernel
theorem d_X_fillRow_0 : decode b_X_fillRow 0 = .ok (.iload_n 1, 1) := by decide +kernel
theorem d_X_fillRow_1 : decode b_X_fillRow 1 = .ok (.bipush 13, 2) := by decide +kernel
theorem d_X_fillRow_3 : decode b_X_fillRow 3 = .ok (.imul, 1) := by decide +kernel
theorem d_X_fillRow_4 : decode b_X_fillRow 4 = .ok (.istore 6, 2) := by decide +kernel
theorem d_X_fillRow_6 : decode b_X_fillRow 6 = .ok (.iload 6, 2) := by decide +kernel
theorem d_X_fillRow_8 : decode b_X_fillRow 8 = .ok (.bipush 13, 2) := by decide +kernel
theorem d_X_fillRow_10 : decode b_X_fillRow 10 = .ok (.isub, 1) := by decide +kernel
theorem d_X_fillRow_11 : decode b_X_fillRow 11 = .ok (.istore 7, 2) := by decide +kernel
theorem d_X_fillRow_13 : decode b_X_fillRow 13 = .ok (.aload_n 0, 1) := by decide +kernel
theorem d_X_fillRow_14 : decode b_X_fillRow 14 = .ok (.getfield 35, 3) := by decide +kernel
theorem d_X_fillRow_17 : decode b_X_fillRow 17 = .ok (.iload 6, 2) := by decide +kernel
theorem d_X_fillRow_19 : decode b_X_fillRow 19 = .ok (.iload_n 1, 1) := by decide +kernel
theorem d_X_fillRow_20 : decode b_X_fillRow 20 = .ok (.iastore, 1) := by decide +kernel
theorem d_X_fillRow_21 : decode b_X_fillRow 21 = .ok (.iconst 1, 1) := by decide +kernel
theorem d_X_fillRow_22 : decode b_X_fillRow 22 = .ok (.istore 8, 2) := by decide +kernel
theorem d_X_fillRow_24 : decode b_X_fillRow 24 = .ok (.iload 8, 2) := by decide +kernel
theorem d_X_fillRow_26 : decode b_X_fillRow 26 = .ok (.iload 5, 2) := by decide +kernel
theorem d_X_fillRow_28 : decode b_X_fillRow 28 = .ok (.if_icmp .gt 87, 3) := by decide +kernel
theorem d_X_fillRow_31 : decode b_X_fillRow 31 = .ok (.lload_n 3, 1) := by decide +kernel
theorem d_X_fillRow_32 : decode b_X_fillRow 32 = .ok (.iload 8, 2) := by decide +kernel
theorem d_X_fillRow_34 : decode b_X_fillRow 34 = .ok (.iconst 1, 1) := by decide +kernel
theorem d_X_fillRow_35 : decode b_X_fillRow 35 = .ok (.isub, 1) := by decide +kernel
theorem d_X_fillRow_36 : decode b_X_fillRow 36 = .ok (.invokestatic 91, 3) := by decide +kernel
theorem d_X_fillRow_39 : decode b_X_fillRow 39 = .ok (.iload_n 2, 1) := by decide +kernel
theorem d_X_fillRow_40 : decode b_X_fillRow 40 = .ok (.if_icmp .ne 7, 3) := by decide +kernel
theorem d_X_fillRow_43 : decode b_X_fillRow 43 = .ok (.iconst 0, 1) := by decide +kernel
theorem d_X_fillRow_44 : decode b_X_fillRow 44 = .ok (.goto 4, 3) := by decide +kernel
theorem d_X_fillRow_47 : decode b_X_fillRow 47 = .ok (.iconst 1, 1) := by decide +kernel
theorem d_X_fillRow_48 : decode b_X_fillRow 48 = .ok (.istore 9, 2) := by decide +kernel
theorem d_X_fillRow_50 : decode b_X_fillRow 50 = .ok (.aload_n 0, 1) := by decide +kernel
theorem d_X_fillRow_51 : decode b_X_fillRow 51 = .ok (.getfield 35, 3) := by decide +kernel
theorem d_X_fillRow_54 : decode b_X_fillRow 54 = .ok (.iload 7, 2) := by decide +kernel
theorem d_X_fillRow_56 : decode b_X_fillRow 56 = .ok (.iload 8, 2) := by decide +kernel
theorem d_X_fillRow_58 : decode b_X_fillRow 58 = .ok (.iadd, 1) := by decide +kernel
theorem d_X_fillRow_59 : decode b_X_fillRow 59 = .ok (.iaload, 1) := by decide +kernel
theorem d_X_fillRow_60 : decode b_X_fillRow 60 = .ok (.aload_n 0, 1) := by decide +kernel
theorem d_X_fillRow_61 : decode b_X_fillRow 61 = .ok (.getfield 35, 3) := by decide +kernel
theorem d_X_fillRow_64 : decode b_X_fillRow 64 = .ok (.iload 6, 2) := by decide +kernel
theorem d_X_fillRow_66 : decode b_X_fillRow 66 = .ok (.iload 8, 2) := by decide +kernel
theorem d_X_fillRow_68 : decode b_X_fillRow 68 = .ok (.iadd, 1) := by decide +kernel
theorem d_X_fillRow_69 : decode b_X_fillRow 69 = .ok (.iconst 1, 1) := by decide +kernel
theorem d_X_fillRow_70 : decode b_X_fillRow 70 = .ok (.isub, 1) := by decide +kernel
theorem d_X_fillRow_71 : decode b_X_fillRow 71 = .ok (.iaload, 1) := by decide +kernel
theorem d_X_fillRow_72 : decode b_X_fillRow 72 = .ok (.invokestatic 125, 3) := by decide +kernel
theorem d_X_fillRow_75 : decode b_X_fillRow 75 = .ok (.iconst 1, 1) := by decide +kernel
theorem d_X_fillRow_76 : decode b_X_fillRow 76 = .ok (.iadd, 1) := by decide +kernel
theorem d_X_fillRow_77 : decode b_X_fillRow 77 = .ok (.istore 10, 2) := by decide +kernel
theorem d_X_fillRow_79 : decode b_X_fillRow 79 = .ok (.aload_n 0, 1) := by decide +kernel
theorem d_X_fillRow_80 : decode b_X_fillRow 80 = .ok (.getfield 35, 3) := by decide +kernel
theorem d_X_fillRow_83 : decode b_X_fillRow 83 = .ok (.iload 6, 2) := by decide +kernel
theorem d_X_fillRow_85 : decode b_X_fillRow 85 = .ok (.iload 8, 2) := by decide +kernel
theorem d_X_fillRow_87 : decode b_X_fillRow 87 = .ok (.iadd, 1) := by decide +kernel
theorem d_X_fillRow_88 : decode b_X_fillRow 88 = .ok (.aload_n 0, 1) := by decide +kernel
theorem d_X_fillRow_89 : decode b_X_fillRow 89 = .ok (.getfield 35, 3) := by decide +kernel
theorem d_X_fillRow_92 : decode b_X_fillRow 92 = .ok (.iload 7, 2) := by decide +kernel
theorem d_X_fillRow_94 : decode b_X_fillRow 94 = .ok (.iload 8, 2) := by decide +kernel
theorem d_X_fillRow_96 : decode b_X_fillRow 96 = .ok (.iadd, 1) := by decide +kernel
theorem d_X_fillRow_97 : decode b_X_fillRow 97 = .ok (.iconst 1, 1) := by decide +kernel
theorem d_X_fillRow_98 : decode b_X_fillRow 98 = .ok (.isub, 1) := by decide +kernel
theorem d_X_fillRow_99 : decode b_X_fillRow 99 = .ok (.iaload, 1) := by decide +kernel
theorem d_X_fillRow_100 : decode b_X_fillRow 100 = .ok (.iload 9, 2) := by decide +kernel
theorem d_X_fillRow_102 : decode b_X_fillRow 102 = .ok (.iadd, 1) := by decide +kernel
theorem d_X_fillRow_103 : decode b_X_fillRow 103 = .ok (.iload 10, 2) := by decide +kernel
theorem d_X_fillRow_105 : decode b_X_fillRow 105 = .ok (.invokestatic 125, 3) := by decide +kernel
theorem d_X_fillRow_108 : decode b_X_fillRow 108 = .ok (.iastore, 1) := by decide +kernel
theorem d_X_fillRow_109 : decode b_X_fillRow 109 = .ok (.iinc 8 1, 3) := by decide +kernel
theorem d_X_fillRow_112 : decode b_X_fillRow 112 = .ok (.goto (-88), 3) := by decide +kernel
theorem d_X_fillRow_115 : decode b_X_fillRow 115 = .ok (.return_, 1) := by decide +kernel
theorem d_X_find_0 : decode b_X_find 0 = .ok (.iconst 0, 1) := by decide +kernel
theorem d_X_find_1 : decode b_X_find 1 = .ok (.istore_n 3, 1) := by decide +kernel
theorem d_X_find_2 : decode b_X_find 2 = .ok (.iload_n 3, 1) := by decide +kernel
theorem d_X_find_3 : decode b_X_find 3 = .ok (.aload_n 0, 1) := by decide +kernel
theorem d_X_find_4 : decode b_X_find 4 = .ok (.getfield 52, 3) := by decide +kernel
theorem d_X_find_7 : decode b_X_find 7 = .ok (.if_icmp .ge 22, 3) := by decide +kernel
theorem d_X_find_10 : decode b_X_find 10 = .ok (.aload_n 0, 1) := by decide +kernel
theorem d_X_find_11 : decode b_X_find 11 = .ok (.getfield 9, 3) := by decide +kernel
theorem d_X_find_14 : decode b_X_find 14 = .ok (.iload_n 3, 1) := by decide +kernel
theorem d_X_find_15 : decode b_X_find 15 = .ok (.laload, 1) := by decide +kernel
theorem d_X_find_16 : decode b_X_find 16 = .ok (.lload_n 1, 1) := by decide +kernel
theorem d_X_find_17 : decode b_X_find 17 = .ok (.lcmp, 1) := by decide +kernel
theorem d_X_find_18 : decode b_X_find 18 = .ok (.ifCond .ne 5, 3) := by decide +kernel
theorem d_X_find_21 : decode b_X_find 21 = .ok (.iload_n 3, 1) := by decide +kernel
theorem d_X_find_22 : decode b_X_find 22 = .ok (.ireturn, 1) := by decide +kernel
theorem d_X_find_23 : decode b_X_find 23 = .ok (.iinc 3 1, 3) := by decide +kernel
theorem d_X_find_26 : decode b_X_find 26 = .ok (.goto (-24), 3) := by decide +kernel
theorem d_X_find_29 : decode b_X_find 29 = .ok (.iconst (-1), 1) := by decide +kernel
theorem d_X_find_30 : decode b_X_find 30 = .ok (.ireturn, 1) := by decide +kernel
theorem d_X_hasNode_0 : decode b_X_hasNode 0 = .ok (.iload_n 1, 1) := by decide +kernel
theorem d_X_hasNode_1 : decode b_X_hasNode 1 = .ok (.ifCond .lt 15, 3) := by decide +kernel
theorem d_X_hasNode_4 : decode b_X_hasNode 4 = .ok (.iload_n 1, 1) := by decide +kernel
theorem d_X_hasNode_5 : decode b_X_hasNode 5 = .ok (.aload_n 0, 1) := by decide +kernel
theorem d_X_hasNode_6 : decode b_X_hasNode 6 = .ok (.getfield 72, 3) := by decide +kernel
theorem d_X_hasNode_9 : decode b_X_hasNode 9 = .ok (.if_icmp .ge 7, 3) := by decide +kernel
theorem d_X_hasNode_12 : decode b_X_hasNode 12 = .ok (.iconst 1, 1) := by decide +kernel
theorem d_X_hasNode_13 : decode b_X_hasNode 13 = .ok (.goto 4, 3) := by decide +kernel
theorem d_X_hasNode_16 : decode b_X_hasNode 16 = .ok (.iconst 0, 1) := by decide +kernel
theorem d_X_hasNode_17 : decode b_X_hasNode 17 = .ok (.ireturn, 1) := by decide +kernel
theorem d_X_hasResult_0 : decode b_X_hasResult 0 = .ok (.iload_n 1, 1) := by decide +kernel
theorem d_X_hasResult_1 : decode b_X_hasResult 1 = .ok (.ifCond .lt 15, 3) := by decide +kernel
theorem d_X_hasResult_4 : decode b_X_hasResult 4 = .ok (.iload_n 1, 1) := by decide +kernel
theorem d_X_hasResult_5 : decode b_X_hasResult 5 = .ok (.aload_n 0, 1) := by decide +kernel
theorem d_X_hasResult_6 : decode b_X_hasResult 6 = .ok (.getfield 75, 3) := by decide +kernel
theorem d_X_hasResult_9 : decode b_X_hasResult 9 = .ok (.if_icmp .ge 7, 3) := by decide +kernel
theorem d_X_hasResult_12 : decode b_X_hasResult 12 = .ok (.iconst 1, 1) := by decide +kernel
theorem d_X_hasResult_13 : decode b_X_hasResult 13 = .ok (.goto 4, 3) := by decide +kernel
theorem d_X_hasResult_16 : decode b_X_hasResult 16 = .ok (.iconst 0, 1) := by decide +kernel
theorem d_X_hasResult_17 : decode b_X_hasResult 17 = .ok (.ireturn, 1) := by decide +kernel
theorem d_X_hasWord_0 : decode b_X_hasWord 0 = .ok (.iload_n 1, 1) := by decide +kernel
theorem d_X_hasWord_1 : decode b_X_hasWord 1 = .ok (.ifCond .lt 15, 3) := by decide +kernel
theorem d_X_hasWord_4 : decode b_X_hasWord 4 = .ok (.iload_n 1, 1) := by decide +kernel
theorem d_X_hasWord_5 : decode b_X_hasWord 5 = .ok (.aload_n 0, 1) := by decide +kernel
theorem d_X_hasWord_6 : decode b_X_hasWord 6 = .ok (.getfield 52, 3) := by decide +kernel
theorem d_X_hasWord_9 : decode b_X_hasWord 9 = .ok (.if_icmp .ge 7, 3) := by decide +kernel
theorem d_X_hasWord_12 : decode b_X_hasWord 12 = .ok (.iconst 1, 1) := by decide +kernel
theorem d_X_hasWord_13 : decode b_X_hasWord 13 = .ok (.goto 4, 3) := by decide +kernel
theorem d_X_hasWord_16 : decode b_X_hasWord 16 = .ok (.iconst 0, 1) := by decide +kernel
theorem d_X_hasWord_17 : decode b_X_hasWord 17 = .ok (.ireturn, 1) := by decide +kernel
theorem d_X_isWord_0 : decode b_X_isWord 0 = .ok (.lload_n 0, 1) := by decide +kernel
theorem d_X_isWord_1 : decode b_X_isWord 1 = .ok (.lconst 0, 1) := by decide +kernel
theorem d_X_isWord_2 : decode b_X_isWord 2 = .ok (.lcmp, 1) := by decide +kernel
theorem d_X_isWord_3 : decode b_X_isWord 3 = .ok (.ifCond .lt 11, 3) := by decide +kernel
theorem d_X_isWord_6 : decode b_X_isWord 6 = .ok (.lload_n 0, 1) := by decide +kernel
theorem d_X_isWord_7 : decode b_X_isWord 7 = .ok (.ldc2_w 112, 3) := by decide +kernel
theorem d_X_isWord_10 : decode b_X_isWord 10 = .ok (.lcmp, 1) := by decide +kernel
theorem d_X_isWord_11 : decode b_X_isWord 11 = .ok (.ifCond .le 5, 3) := by decide +kernel
theorem d_X_isWord_14 : decode b_X_isWord 14 = .ok (.iconst 0, 1) := by decide +kernel
theorem d_X_isWord_15 : decode b_X_isWord 15 = .ok (.ireturn, 1) := by decide +kernel
theorem d_X_isWord_16 : decode b_X_isWord 16 = .ok (.lload_n 0, 1) := by decide +kernel
theorem d_X_isWord_17 : decode b_X_isWord 17 = .ok (.invokestatic 56, 3) := by decide +kernel
theorem d_X_isWord_20 : decode b_X_isWord 20 = .ok (.istore_n 2, 1) := by decide +kernel
theorem d_X_isWord_21 : decode b_X_isWord 21 = .ok (.iconst 0, 1) := by decide +kernel
theorem d_X_isWord_22 : decode b_X_isWord 22 = .ok (.istore_n 3, 1) := by decide +kernel
theorem d_X_isWord_23 : decode b_X_isWord 23 = .ok (.iload_n 3, 1) := by decide +kernel
theorem d_X_isWord_24 : decode b_X_isWord 24 = .ok (.iload_n 2, 1) := by decide +kernel
theorem d_X_isWord_25 : decode b_X_isWord 25 = .ok (.if_icmp .ge 21, 3) := by decide +kernel
theorem d_X_isWord_28 : decode b_X_isWord 28 = .ok (.lload_n 0, 1) := by decide +kernel
theorem d_X_isWord_29 : decode b_X_isWord 29 = .ok (.iload_n 3, 1) := by decide +kernel
theorem d_X_isWord_30 : decode b_X_isWord 30 = .ok (.invokestatic 91, 3) := by decide +kernel
theorem d_X_isWord_33 : decode b_X_isWord 33 = .ok (.bipush 26, 2) := by decide +kernel
theorem d_X_isWord_35 : decode b_X_isWord 35 = .ok (.if_icmp .le 5, 3) := by decide +kernel
theorem d_X_isWord_38 : decode b_X_isWord 38 = .ok (.iconst 0, 1) := by decide +kernel
theorem d_X_isWord_39 : decode b_X_isWord 39 = .ok (.ireturn, 1) := by decide +kernel
theorem d_X_isWord_40 : decode b_X_isWord 40 = .ok (.iinc 3 1, 3) := by decide +kernel
theorem d_X_isWord_43 : decode b_X_isWord 43 = .ok (.goto (-20), 3) := by decide +kernel
theorem d_X_isWord_46 : decode b_X_isWord 46 = .ok (.lload_n 0, 1) := by decide +kernel
theorem d_X_isWord_47 : decode b_X_isWord 47 = .ok (.iload_n 2, 1) := by decide +kernel
theorem d_X_isWord_48 : decode b_X_isWord 48 = .ok (.invokestatic 114, 3) := by decide +kernel
theorem d_X_isWord_51 : decode b_X_isWord 51 = .ok (.lconst 0, 1) := by decide +kernel
theorem d_X_isWord_52 : decode b_X_isWord 52 = .ok (.lcmp, 1) := by decide +kernel
theorem d_X_isWord_53 : decode b_X_isWord 53 = .ok (.ifCond .ne 7, 3) := by decide +kernel
theorem d_X_isWord_56 : decode b_X_isWord 56 = .ok (.iconst 1, 1) := by decide +kernel
theorem d_X_isWord_57 : decode b_X_isWord 57 = .ok (.goto 4, 3) := by decide +kernel
theorem d_X_isWord_60 : decode b_X_isWord 60 = .ok (.iconst 0, 1) := by decide +kernel
theorem d_X_isWord_61 : decode b_X_isWord 61 = .ok (.ireturn, 1) := by decide +kernel
theorem d_X_lengthOf_0 : decode b_X_lengthOf 0 = .ok (.iconst 0, 1) := by decide +kernel
theorem d_X_lengthOf_1 : decode b_X_lengthOf 1 = .ok (.istore_n 2, 1) := by decide +kernel
theorem d_X_lengthOf_2 : decode b_X_lengthOf 2 = .ok (.iload_n 2, 1) := by decide +kernel
theorem d_X_lengthOf_3 : decode b_X_lengthOf 3 = .ok (.bipush 12, 2) := by decide +kernel
theorem d_X_lengthOf_5 : decode b_X_lengthOf 5 = .ok (.if_icmp .ge 17, 3) := by decide +kernel
theorem d_X_lengthOf_8 : decode b_X_lengthOf 8 = .ok (.lload_n 0, 1) := by decide +kernel
theorem d_X_lengthOf_9 : decode b_X_lengthOf 9 = .ok (.iload_n 2, 1) := by decide +kernel
theorem d_X_lengthOf_10 : decode b_X_lengthOf 10 = .ok (.invokestatic 91, 3) := by decide +kernel
theorem d_X_lengthOf_13 : decode b_X_lengthOf 13 = .ok (.ifCond .eq 9, 3) := by decide +kernel
theorem d_X_lengthOf_16 : decode b_X_lengthOf 16 = .ok (.iinc 2 1, 3) := by decide +kernel
theorem d_X_lengthOf_19 : decode b_X_lengthOf 19 = .ok (.goto (-17), 3) := by decide +kernel
theorem d_X_lengthOf_22 : decode b_X_lengthOf 22 = .ok (.iload_n 2, 1) := by decide +kernel
theorem d_X_lengthOf_23 : decode b_X_lengthOf 23 = .ok (.ireturn, 1) := by decide +kernel
theorem d_X_letterAt_0 : decode b_X_letterAt 0 = .ok (.iload_n 2, 1) := by decide +kernel
theorem d_X_letterAt_1 : decode b_X_letterAt 1 = .ok (.bipush 12, 2) := by decide +kernel
theorem d_X_letterAt_3 : decode b_X_letterAt 3 = .ok (.if_icmp .lt 5, 3) := by decide +kernel
theorem d_X_letterAt_6 : decode b_X_letterAt 6 = .ok (.iconst 0, 1) := by decide +kernel
theorem d_X_letterAt_7 : decode b_X_letterAt 7 = .ok (.ireturn, 1) := by decide +kernel
theorem d_X_letterAt_8 : decode b_X_letterAt 8 = .ok (.lload_n 0, 1) := by decide +kernel
theorem d_X_letterAt_9 : decode b_X_letterAt 9 = .ok (.bipush 60, 2) := by decide +kernel
theorem d_X_letterAt_11 : decode b_X_letterAt 11 = .ok (.iconst 5, 1) := by decide +kernel
theorem d_X_letterAt_12 : decode b_X_letterAt 12 = .ok (.iload_n 2, 1) := by decide +kernel
theorem d_X_letterAt_13 : decode b_X_letterAt 13 = .ok (.iconst 1, 1) := by decide +kernel
theorem d_X_letterAt_14 : decode b_X_letterAt 14 = .ok (.iadd, 1) := by decide +kernel
theorem d_X_letterAt_15 : decode b_X_letterAt 15 = .ok (.imul, 1) := by decide +kernel
theorem d_X_letterAt_16 : decode b_X_letterAt 16 = .ok (.isub, 1) := by decide +kernel
theorem d_X_letterAt_17 : decode b_X_letterAt 17 = .ok (.lushr, 1) := by decide +kernel
theorem d_X_letterAt_18 : decode b_X_letterAt 18 = .ok (.l2i, 1) := by decide +kernel
theorem d_X_letterAt_19 : decode b_X_letterAt 19 = .ok (.bipush 31, 2) := by decide +kernel
theorem d_X_letterAt_21 : decode b_X_letterAt 21 = .ok (.iand, 1) := by decide +kernel
theorem d_X_letterAt_22 : decode b_X_letterAt 22 = .ok (.ireturn, 1) := by decide +kernel
theorem d_X_makeNode_0 : decode b_X_makeNode 0 = .ok (.aload_n 0, 1) := by decide +kernel
theorem d_X_makeNode_1 : decode b_X_makeNode 1 = .ok (.getfield 23, 3) := by decide +kernel
theorem d_X_makeNode_4 : decode b_X_makeNode 4 = .ok (.aload_n 0, 1) := by decide +kernel
theorem d_X_makeNode_5 : decode b_X_makeNode 5 = .ok (.getfield 72, 3) := by decide +kernel
theorem d_X_makeNode_8 : decode b_X_makeNode 8 = .ok (.iload_n 1, 1) := by decide +kernel
theorem d_X_makeNode_9 : decode b_X_makeNode 9 = .ok (.iastore, 1) := by decide +kernel
theorem d_X_makeNode_10 : decode b_X_makeNode 10 = .ok (.aload_n 0, 1) := by decide +kernel
theorem d_X_makeNode_11 : decode b_X_makeNode 11 = .ok (.getfield 26, 3) := by decide +kernel
theorem d_X_makeNode_14 : decode b_X_makeNode 14 = .ok (.aload_n 0, 1) := by decide +kernel
theorem d_X_makeNode_15 : decode b_X_makeNode 15 = .ok (.getfield 72, 3) := by decide +kernel
theorem d_X_makeNode_18 : decode b_X_makeNode 18 = .ok (.iload_n 2, 1) := by decide +kernel
theorem d_X_makeNode_19 : decode b_X_makeNode 19 = .ok (.iastore, 1) := by decide +kernel
theorem d_X_makeNode_20 : decode b_X_makeNode 20 = .ok (.aload_n 0, 1) := by decide +kernel
theorem d_X_makeNode_21 : decode b_X_makeNode 21 = .ok (.dup, 1) := by decide +kernel
theorem d_X_makeNode_22 : decode b_X_makeNode 22 = .ok (.getfield 72, 3) := by decide +kernel
theorem d_X_makeNode_25 : decode b_X_makeNode 25 = .ok (.iconst 1, 1) := by decide +kernel
theorem d_X_makeNode_26 : decode b_X_makeNode 26 = .ok (.iadd, 1) := by decide +kernel
theorem d_X_makeNode_27 : decode b_X_makeNode 27 = .ok (.putfield 72, 3) := by decide +kernel
theorem d_X_makeNode_30 : decode b_X_makeNode 30 = .ok (.aload_n 0, 1) := by decide +kernel
theorem d_X_makeNode_31 : decode b_X_makeNode 31 = .ok (.getfield 72, 3) := by decide +kernel
theorem d_X_makeNode_34 : decode b_X_makeNode 34 = .ok (.iconst 1, 1) := by decide +kernel
theorem d_X_makeNode_35 : decode b_X_makeNode 35 = .ok (.isub, 1) := by decide +kernel
theorem d_X_makeNode_36 : decode b_X_makeNode 36 = .ok (.ireturn, 1) := by decide +kernel
theorem d_X_measureAll_0 : decode b_X_measureAll 0 = .ok (.lload_n 1, 1) := by decide +kernel
theorem d_X_measureAll_1 : decode b_X_measureAll 1 = .ok (.invokestatic 56, 3) := by decide +kernel
theorem d_X_measureAll_4 : decode b_X_measureAll 4 = .ok (.istore_n 3, 1) := by decide +kernel
theorem d_X_measureAll_5 : decode b_X_measureAll 5 = .ok (.aload_n 0, 1) := by decide +kernel
theorem d_X_measureAll_6 : decode b_X_measureAll 6 = .ok (.iload_n 3, 1) := by decide +kernel
theorem d_X_measureAll_7 : decode b_X_measureAll 7 = .ok (.invokevirtual 95, 3) := by decide +kernel
theorem d_X_measureAll_10 : decode b_X_measureAll 10 = .ok (.iconst 0, 1) := by decide +kernel
theorem d_X_measureAll_11 : decode b_X_measureAll 11 = .ok (.istore 4, 2) := by decide +kernel
theorem d_X_measureAll_13 : decode b_X_measureAll 13 = .ok (.iload 4, 2) := by decide +kernel
theorem d_X_measureAll_15 : decode b_X_measureAll 15 = .ok (.aload_n 0, 1) := by decide +kernel
theorem d_X_measureAll_16 : decode b_X_measureAll 16 = .ok (.getfield 52, 3) := by decide +kernel
theorem d_X_measureAll_19 : decode b_X_measureAll 19 = .ok (.if_icmp .ge 35, 3) := by decide +kernel
theorem d_X_measureAll_22 : decode b_X_measureAll 22 = .ok (.aload_n 0, 1) := by decide +kernel
theorem d_X_measureAll_23 : decode b_X_measureAll 23 = .ok (.getfield 38, 3) := by decide +kernel
theorem d_X_measureAll_26 : decode b_X_measureAll 26 = .ok (.iload 4, 2) := by decide +kernel
theorem d_X_measureAll_28 : decode b_X_measureAll 28 = .ok (.aload_n 0, 1) := by decide +kernel
theorem d_X_measureAll_29 : decode b_X_measureAll 29 = .ok (.iload 4, 2) := by decide +kernel
theorem d_X_measureAll_31 : decode b_X_measureAll 31 = .ok (.aload_n 0, 1) := by decide +kernel
theorem d_X_measureAll_32 : decode b_X_measureAll 32 = .ok (.getfield 17, 3) := by decide +kernel
theorem d_X_measureAll_35 : decode b_X_measureAll 35 = .ok (.iload 4, 2) := by decide +kernel
theorem d_X_measureAll_37 : decode b_X_measureAll 37 = .ok (.iaload, 1) := by decide +kernel
theorem d_X_measureAll_38 : decode b_X_measureAll 38 = .ok (.iconst 1, 1) := by decide +kernel
theorem d_X_measureAll_39 : decode b_X_measureAll 39 = .ok (.invokestatic 134, 3) := by decide +kernel
theorem d_X_measureAll_42 : decode b_X_measureAll 42 = .ok (.lload_n 1, 1) := by decide +kernel
theorem d_X_measureAll_43 : decode b_X_measureAll 43 = .ok (.iload_n 3, 1) := by decide +kernel
theorem d_X_measureAll_44 : decode b_X_measureAll 44 = .ok (.invokevirtual 98, 3) := by decide +kernel
theorem d_X_measureAll_47 : decode b_X_measureAll 47 = .ok (.iastore, 1) := by decide +kernel
theorem d_X_measureAll_48 : decode b_X_measureAll 48 = .ok (.iinc 4 1, 3) := by decide +kernel
theorem d_X_measureAll_51 : decode b_X_measureAll 51 = .ok (.goto (-38), 3) := by decide +kernel
theorem d_X_measureAll_54 : decode b_X_measureAll 54 = .ok (.return_, 1) := by decide +kernel
theorem d_X_nodes_0 : decode b_X_nodes 0 = .ok (.aload_n 0, 1) := by decide +kernel
theorem d_X_nodes_1 : decode b_X_nodes 1 = .ok (.getfield 72, 3) := by decide +kernel
theorem d_X_nodes_4 : decode b_X_nodes 4 = .ok (.ireturn, 1) := by decide +kernel
theorem d_X_numberBeginnings_0 : decode b_X_numberBeginnings 0 = .ok (.aload_n 0, 1) := by decide +kernel
theorem d_X_numberBeginnings_1 : decode b_X_numberBeginnings 1 = .ok (.getfield 17, 3) := by decide +kernel
theorem d_X_numberBeginnings_4 : decode b_X_numberBeginnings 4 = .ok (.iload_n 1, 1) := by decide +kernel
theorem d_X_numberBeginnings_5 : decode b_X_numberBeginnings 5 = .ok (.iaload, 1) := by decide +kernel
theorem d_X_numberBeginnings_6 : decode b_X_numberBeginnings 6 = .ok (.istore_n 2, 1) := by decide +kernel
theorem d_X_numberBeginnings_7 : decode b_X_numberBeginnings 7 = .ok (.iload_n 2, 1) := by decide +kernel
theorem d_X_numberBeginnings_8 : decode b_X_numberBeginnings 8 = .ok (.aload_n 0, 1) := by decide +kernel
theorem d_X_numberBeginnings_9 : decode b_X_numberBeginnings 9 = .ok (.getfield 13, 3) := by decide +kernel
theorem d_X_numberBeginnings_12 : decode b_X_numberBeginnings 12 = .ok (.iload_n 1, 1) := by decide +kernel
theorem d_X_numberBeginnings_13 : decode b_X_numberBeginnings 13 = .ok (.iaload, 1) := by decide +kernel
theorem d_X_numberBeginnings_14 : decode b_X_numberBeginnings 14 = .ok (.if_icmp .gt 41, 3) := by decide +kernel
theorem d_X_numberBeginnings_17 : decode b_X_numberBeginnings 17 = .ok (.aload_n 0, 1) := by decide +kernel
theorem d_X_numberBeginnings_18 : decode b_X_numberBeginnings 18 = .ok (.iload_n 1, 1) := by decide +kernel
theorem d_X_numberBeginnings_19 : decode b_X_numberBeginnings 19 = .ok (.iload_n 2, 1) := by decide +kernel
theorem d_X_numberBeginnings_20 : decode b_X_numberBeginnings 20 = .ok (.invokevirtual 118, 3) := by decide +kernel
theorem d_X_numberBeginnings_23 : decode b_X_numberBeginnings 23 = .ok (.istore_n 3, 1) := by decide +kernel
theorem d_X_numberBeginnings_24 : decode b_X_numberBeginnings 24 = .ok (.aload_n 0, 1) := by decide +kernel
theorem d_X_numberBeginnings_25 : decode b_X_numberBeginnings 25 = .ok (.getfield 20, 3) := by decide +kernel
theorem d_X_numberBeginnings_28 : decode b_X_numberBeginnings 28 = .ok (.iload_n 1, 1) := by decide +kernel
theorem d_X_numberBeginnings_29 : decode b_X_numberBeginnings 29 = .ok (.bipush 13, 2) := by decide +kernel
theorem d_X_numberBeginnings_31 : decode b_X_numberBeginnings 31 = .ok (.imul, 1) := by decide +kernel
theorem d_X_numberBeginnings_32 : decode b_X_numberBeginnings 32 = .ok (.iload_n 2, 1) := by decide +kernel
theorem d_X_numberBeginnings_33 : decode b_X_numberBeginnings 33 = .ok (.iadd, 1) := by decide +kernel
theorem d_X_numberBeginnings_34 : decode b_X_numberBeginnings 34 = .ok (.iload_n 3, 1) := by decide +kernel
theorem d_X_numberBeginnings_35 : decode b_X_numberBeginnings 35 = .ok (.ifCond .lt 7, 3) := by decide +kernel
theorem d_X_numberBeginnings_38 : decode b_X_numberBeginnings 38 = .ok (.iload_n 3, 1) := by decide +kernel
theorem d_X_numberBeginnings_39 : decode b_X_numberBeginnings 39 = .ok (.goto 9, 3) := by decide +kernel
theorem d_X_numberBeginnings_42 : decode b_X_numberBeginnings 42 = .ok (.aload_n 0, 1) := by decide +kernel
theorem d_X_numberBeginnings_43 : decode b_X_numberBeginnings 43 = .ok (.iload_n 1, 1) := by decide +kernel
theorem d_X_numberBeginnings_44 : decode b_X_numberBeginnings 44 = .ok (.iload_n 2, 1) := by decide +kernel
theorem d_X_numberBeginnings_45 : decode b_X_numberBeginnings 45 = .ok (.invokevirtual 64, 3) := by decide +kernel
theorem d_X_numberBeginnings_48 : decode b_X_numberBeginnings 48 = .ok (.iastore, 1) := by decide +kernel
theorem d_X_numberBeginnings_49 : decode b_X_numberBeginnings 49 = .ok (.iinc 2 1, 3) := by decide +kernel
theorem d_X_numberBeginnings_52 : decode b_X_numberBeginnings 52 = .ok (.goto (-45), 3) := by decide +kernel
theorem d_X_numberBeginnings_55 : decode b_X_numberBeginnings 55 = .ok (.return_, 1) := by decide +kernel
theorem d_X_restOf_0 : decode b_X_restOf 0 = .ok (.lload_n 0, 1) := by decide +kernel
theorem d_X_restOf_1 : decode b_X_restOf 1 = .ok (.iconst 5, 1) := by decide +kernel
theorem d_X_restOf_2 : decode b_X_restOf 2 = .ok (.iload_n 2, 1) := by decide +kernel
theorem d_X_restOf_3 : decode b_X_restOf 3 = .ok (.imul, 1) := by decide +kernel
theorem d_X_restOf_4 : decode b_X_restOf 4 = .ok (.lshl, 1) := by decide +kernel
theorem d_X_restOf_5 : decode b_X_restOf 5 = .ok (.ldc2_w 112, 3) := by decide +kernel
theorem d_X_restOf_8 : decode b_X_restOf 8 = .ok (.land, 1) := by decide +kernel
theorem d_X_restOf_9 : decode b_X_restOf 9 = .ok (.lreturn, 1) := by decide +kernel
theorem d_X_result_0 : decode b_X_result 0 = .ok (.aload_n 0, 1) := by decide +kernel
theorem d_X_result_1 : decode b_X_result 1 = .ok (.iload_n 1, 1) := by decide +kernel
theorem d_X_result_2 : decode b_X_result 2 = .ok (.invokevirtual 109, 3) := by decide +kernel
theorem d_X_result_5 : decode b_X_result 5 = .ok (.ifCond .eq 12, 3) := by decide +kernel
theorem d_X_result_8 : decode b_X_result 8 = .ok (.aload_n 0, 1) := by decide +kernel
theorem d_X_result_9 : decode b_X_result 9 = .ok (.getfield 29, 3) := by decide +kernel
theorem d_X_result_12 : decode b_X_result 12 = .ok (.iload_n 1, 1) := by decide +kernel
theorem d_X_result_13 : decode b_X_result 13 = .ok (.iaload, 1) := by decide +kernel
theorem d_X_result_14 : decode b_X_result 14 = .ok (.goto 4, 3) := by decide +kernel
theorem d_X_result_17 : decode b_X_result 17 = .ok (.iconst (-1), 1) := by decide +kernel
theorem d_X_result_18 : decode b_X_result 18 = .ok (.ireturn, 1) := by decide +kernel
theorem d_X_sameEndings_0 : decode b_X_sameEndings 0 = .ok (.iconst 0, 1) := by decide +kernel
theorem d_X_sameEndings_1 : decode b_X_sameEndings 1 = .ok (.istore 5, 2) := by decide +kernel
theorem d_X_sameEndings_3 : decode b_X_sameEndings 3 = .ok (.iload 5, 2) := by decide +kernel
theorem d_X_sameEndings_5 : decode b_X_sameEndings 5 = .ok (.bipush 48, 2) := by decide +kernel
theorem d_X_sameEndings_7 : decode b_X_sameEndings 7 = .ok (.if_icmp .ge 121, 3) := by decide +kernel
theorem d_X_sameEndings_10 : decode b_X_sameEndings 10 = .ok (.iload_n 1, 1) := by decide +kernel
theorem d_X_sameEndings_11 : decode b_X_sameEndings 11 = .ok (.iload 5, 2) := by decide +kernel
theorem d_X_sameEndings_13 : decode b_X_sameEndings 13 = .ok (.iadd, 1) := by decide +kernel
theorem d_X_sameEndings_14 : decode b_X_sameEndings 14 = .ok (.aload_n 0, 1) := by decide +kernel
theorem d_X_sameEndings_15 : decode b_X_sameEndings 15 = .ok (.getfield 52, 3) := by decide +kernel
theorem d_X_sameEndings_18 : decode b_X_sameEndings 18 = .ok (.if_icmp .ge 20, 3) := by decide +kernel
theorem d_X_sameEndings_21 : decode b_X_sameEndings 21 = .ok (.aload_n 0, 1) := by decide +kernel
theorem d_X_sameEndings_22 : decode b_X_sameEndings 22 = .ok (.iload_n 1, 1) := by decide +kernel
theorem d_X_sameEndings_23 : decode b_X_sameEndings 23 = .ok (.iload 5, 2) := by decide +kernel
theorem d_X_sameEndings_25 : decode b_X_sameEndings 25 = .ok (.iadd, 1) := by decide +kernel
theorem d_X_sameEndings_26 : decode b_X_sameEndings 26 = .ok (.iload_n 1, 1) := by decide +kernel
theorem d_X_sameEndings_27 : decode b_X_sameEndings 27 = .ok (.iload_n 2, 1) := by decide +kernel
theorem d_X_sameEndings_28 : decode b_X_sameEndings 28 = .ok (.invokevirtual 87, 3) := by decide +kernel
theorem d_X_sameEndings_31 : decode b_X_sameEndings 31 = .ok (.ifCond .eq 7, 3) := by decide +kernel
theorem d_X_sameEndings_34 : decode b_X_sameEndings 34 = .ok (.iconst 1, 1) := by decide +kernel
theorem d_X_sameEndings_35 : decode b_X_sameEndings 35 = .ok (.goto 4, 3) := by decide +kernel
theorem d_X_sameEndings_38 : decode b_X_sameEndings 38 = .ok (.iconst 0, 1) := by decide +kernel
theorem d_X_sameEndings_39 : decode b_X_sameEndings 39 = .ok (.istore 6, 2) := by decide +kernel
theorem d_X_sameEndings_41 : decode b_X_sameEndings 41 = .ok (.iload_n 3, 1) := by decide +kernel
theorem d_X_sameEndings_42 : decode b_X_sameEndings 42 = .ok (.iload 5, 2) := by decide +kernel
theorem d_X_sameEndings_44 : decode b_X_sameEndings 44 = .ok (.iadd, 1) := by decide +kernel
theorem d_X_sameEndings_45 : decode b_X_sameEndings 45 = .ok (.aload_n 0, 1) := by decide +kernel
theorem d_X_sameEndings_46 : decode b_X_sameEndings 46 = .ok (.getfield 52, 3) := by decide +kernel
theorem d_X_sameEndings_49 : decode b_X_sameEndings 49 = .ok (.if_icmp .ge 21, 3) := by decide +kernel
theorem d_X_sameEndings_52 : decode b_X_sameEndings 52 = .ok (.aload_n 0, 1) := by decide +kernel
theorem d_X_sameEndings_53 : decode b_X_sameEndings 53 = .ok (.iload_n 3, 1) := by decide +kernel
theorem d_X_sameEndings_54 : decode b_X_sameEndings 54 = .ok (.iload 5, 2) := by decide +kernel
theorem d_X_sameEndings_56 : decode b_X_sameEndings 56 = .ok (.iadd, 1) := by decide +kernel
theorem d_X_sameEndings_57 : decode b_X_sameEndings 57 = .ok (.iload_n 3, 1) := by decide +kernel
theorem d_X_sameEndings_58 : decode b_X_sameEndings 58 = .ok (.iload 4, 2) := by decide +kernel
theorem d_X_sameEndings_60 : decode b_X_sameEndings 60 = .ok (.invokevirtual 87, 3) := by decide +kernel
theorem d_X_sameEndings_63 : decode b_X_sameEndings 63 = .ok (.ifCond .eq 7, 3) := by decide +kernel
theorem d_X_sameEndings_66 : decode b_X_sameEndings 66 = .ok (.iconst 1, 1) := by decide +kernel
theorem d_X_sameEndings_67 : decode b_X_sameEndings 67 = .ok (.goto 4, 3) := by decide +kernel
theorem d_X_sameEndings_70 : decode b_X_sameEndings 70 = .ok (.iconst 0, 1) := by decide +kernel
theorem d_X_sameEndings_71 : decode b_X_sameEndings 71 = .ok (.istore 7, 2) := by decide +kernel
theorem d_X_sameEndings_73 : decode b_X_sameEndings 73 = .ok (.iload 6, 2) := by decide +kernel
theorem d_X_sameEndings_75 : decode b_X_sameEndings 75 = .ok (.iload 7, 2) := by decide +kernel
theorem d_X_sameEndings_77 : decode b_X_sameEndings 77 = .ok (.if_icmp .eq 5, 3) := by decide +kernel
theorem d_X_sameEndings_80 : decode b_X_sameEndings 80 = .ok (.iconst 0, 1) := by decide +kernel
theorem d_X_sameEndings_81 : decode b_X_sameEndings 81 = .ok (.ireturn, 1) := by decide +kernel
theorem d_X_sameEndings_82 : decode b_X_sameEndings 82 = .ok (.iload 6, 2) := by decide +kernel
theorem d_X_sameEndings_84 : decode b_X_sameEndings 84 = .ok (.ifCond .ne 5, 3) := by decide +kernel
theorem d_X_sameEndings_87 : decode b_X_sameEndings 87 = .ok (.iconst 1, 1) := by decide +kernel
theorem d_X_sameEndings_88 : decode b_X_sameEndings 88 = .ok (.ireturn, 1) := by decide +kernel
theorem d_X_sameEndings_89 : decode b_X_sameEndings 89 = .ok (.aload_n 0, 1) := by decide +kernel
theorem d_X_sameEndings_90 : decode b_X_sameEndings 90 = .ok (.getfield 9, 3) := by decide +kernel
theorem d_X_sameEndings_93 : decode b_X_sameEndings 93 = .ok (.iload_n 1, 1) := by decide +kernel
theorem d_X_sameEndings_94 : decode b_X_sameEndings 94 = .ok (.iload 5, 2) := by decide +kernel
theorem d_X_sameEndings_96 : decode b_X_sameEndings 96 = .ok (.iadd, 1) := by decide +kernel
theorem d_X_sameEndings_97 : decode b_X_sameEndings 97 = .ok (.laload, 1) := by decide +kernel
theorem d_X_sameEndings_98 : decode b_X_sameEndings 98 = .ok (.iload_n 2, 1) := by decide +kernel
theorem d_X_sameEndings_99 : decode b_X_sameEndings 99 = .ok (.invokestatic 114, 3) := by decide +kernel
theorem d_X_sameEndings_102 : decode b_X_sameEndings 102 = .ok (.aload_n 0, 1) := by decide +kernel
theorem d_X_sameEndings_103 : decode b_X_sameEndings 103 = .ok (.getfield 9, 3) := by decide +kernel
theorem d_X_sameEndings_106 : decode b_X_sameEndings 106 = .ok (.iload_n 3, 1) := by decide +kernel
theorem d_X_sameEndings_107 : decode b_X_sameEndings 107 = .ok (.iload 5, 2) := by decide +kernel
theorem d_X_sameEndings_109 : decode b_X_sameEndings 109 = .ok (.iadd, 1) := by decide +kernel
theorem d_X_sameEndings_110 : decode b_X_sameEndings 110 = .ok (.laload, 1) := by decide +kernel
theorem d_X_sameEndings_111 : decode b_X_sameEndings 111 = .ok (.iload 4, 2) := by decide +kernel
theorem d_X_sameEndings_113 : decode b_X_sameEndings 113 = .ok (.invokestatic 114, 3) := by decide +kernel
theorem d_X_sameEndings_116 : decode b_X_sameEndings 116 = .ok (.lcmp, 1) := by decide +kernel
theorem d_X_sameEndings_117 : decode b_X_sameEndings 117 = .ok (.ifCond .eq 5, 3) := by decide +kernel
theorem d_X_sameEndings_120 : decode b_X_sameEndings 120 = .ok (.iconst 0, 1) := by decide +kernel
theorem d_X_sameEndings_121 : decode b_X_sameEndings 121 = .ok (.ireturn, 1) := by decide +kernel
theorem d_X_sameEndings_122 : decode b_X_sameEndings 122 = .ok (.iinc 5 1, 3) := by decide +kernel
theorem d_X_sameEndings_125 : decode b_X_sameEndings 125 = .ok (.goto (-122), 3) := by decide +kernel
theorem d_X_sameEndings_128 : decode b_X_sameEndings 128 = .ok (.iconst 1, 1) := by decide +kernel
theorem d_X_sameEndings_129 : decode b_X_sameEndings 129 = .ok (.ireturn, 1) := by decide +kernel
theorem d_X_seal_0 : decode b_X_seal 0 = .ok (.aload_n 0, 1) := by decide +kernel
theorem d_X_seal_1 : decode b_X_seal 1 = .ok (.getfield 44, 3) := by decide +kernel
theorem d_X_seal_4 : decode b_X_seal 4 = .ok (.ifCond .eq 5, 3) := by decide +kernel
theorem d_X_seal_7 : decode b_X_seal 7 = .ok (.iconst 0, 1) := by decide +kernel
theorem d_X_seal_8 : decode b_X_seal 8 = .ok (.ireturn, 1) := by decide +kernel
theorem d_X_seal_9 : decode b_X_seal 9 = .ok (.aload_n 0, 1) := by decide +kernel
theorem d_X_seal_10 : decode b_X_seal 10 = .ok (.iconst 1, 1) := by decide +kernel
theorem d_X_seal_11 : decode b_X_seal 11 = .ok (.putfield 44, 3) := by decide +kernel
theorem d_X_seal_14 : decode b_X_seal 14 = .ok (.aload_n 0, 1) := by decide +kernel
theorem d_X_seal_15 : decode b_X_seal 15 = .ok (.getfield 52, 3) := by decide +kernel
theorem d_X_seal_18 : decode b_X_seal 18 = .ok (.ifCond .ne 10, 3) := by decide +kernel
theorem d_X_seal_21 : decode b_X_seal 21 = .ok (.aload_n 0, 1) := by decide +kernel
theorem d_X_seal_22 : decode b_X_seal 22 = .ok (.iconst 0, 1) := by decide +kernel
theorem d_X_seal_23 : decode b_X_seal 23 = .ok (.iconst 0, 1) := by decide +kernel
theorem d_X_seal_24 : decode b_X_seal 24 = .ok (.invokevirtual 64, 3) := by decide +kernel
theorem d_X_seal_27 : decode b_X_seal 27 = .ok (.pop, 1) := by decide +kernel
theorem d_X_seal_28 : decode b_X_seal 28 = .ok (.iconst 0, 1) := by decide +kernel
theorem d_X_seal_29 : decode b_X_seal 29 = .ok (.istore_n 1, 1) := by decide +kernel
theorem d_X_seal_30 : decode b_X_seal 30 = .ok (.iload_n 1, 1) := by decide +kernel
theorem d_X_seal_31 : decode b_X_seal 31 = .ok (.aload_n 0, 1) := by decide +kernel
theorem d_X_seal_32 : decode b_X_seal 32 = .ok (.getfield 52, 3) := by decide +kernel
theorem d_X_seal_35 : decode b_X_seal 35 = .ok (.if_icmp .ge 14, 3) := by decide +kernel
theorem d_X_seal_38 : decode b_X_seal 38 = .ok (.aload_n 0, 1) := by decide +kernel
theorem d_X_seal_39 : decode b_X_seal 39 = .ok (.iload_n 1, 1) := by decide +kernel
theorem d_X_seal_40 : decode b_X_seal 40 = .ok (.invokevirtual 68, 3) := by decide +kernel
theorem d_X_seal_43 : decode b_X_seal 43 = .ok (.iinc 1 1, 3) := by decide +kernel
theorem d_X_seal_46 : decode b_X_seal 46 = .ok (.goto (-16), 3) := by decide +kernel
theorem d_X_seal_49 : decode b_X_seal 49 = .ok (.iconst 1, 1) := by decide +kernel
theorem d_X_seal_50 : decode b_X_seal 50 = .ok (.ireturn, 1) := by decide +kernel
theorem d_X_search_0 : decode b_X_search 0 = .ok (.aload_n 0, 1) := by decide +kernel
theorem d_X_search_1 : decode b_X_search 1 = .ok (.getfield 44, 3) := by decide +kernel
theorem d_X_search_4 : decode b_X_search 4 = .ok (.ifCond .ne 5, 3) := by decide +kernel
theorem d_X_search_7 : decode b_X_search 7 = .ok (.iconst (-1), 1) := by decide +kernel
theorem d_X_search_8 : decode b_X_search 8 = .ok (.ireturn, 1) := by decide +kernel
theorem d_X_search_9 : decode b_X_search 9 = .ok (.lload_n 1, 1) := by decide +kernel
theorem d_X_search_10 : decode b_X_search 10 = .ok (.invokestatic 48, 3) := by decide +kernel
theorem d_X_search_13 : decode b_X_search 13 = .ok (.ifCond .eq 12, 3) := by decide +kernel
theorem d_X_search_16 : decode b_X_search 16 = .ok (.iload_n 3, 1) := by decide +kernel
theorem d_X_search_17 : decode b_X_search 17 = .ok (.ifCond .lt 8, 3) := by decide +kernel
theorem d_X_search_20 : decode b_X_search 20 = .ok (.iload_n 3, 1) := by decide +kernel
theorem d_X_search_21 : decode b_X_search 21 = .ok (.iconst 3, 1) := by decide +kernel
theorem d_X_search_22 : decode b_X_search 22 = .ok (.if_icmp .le 6, 3) := by decide +kernel
theorem d_X_search_25 : decode b_X_search 25 = .ok (.bipush (-2), 2) := by decide +kernel
theorem d_X_search_27 : decode b_X_search 27 = .ok (.ireturn, 1) := by decide +kernel
theorem d_X_search_28 : decode b_X_search 28 = .ok (.aload_n 0, 1) := by decide +kernel
theorem d_X_search_29 : decode b_X_search 29 = .ok (.lload_n 1, 1) := by decide +kernel
theorem d_X_search_30 : decode b_X_search 30 = .ok (.invokevirtual 102, 3) := by decide +kernel
theorem d_X_search_33 : decode b_X_search 33 = .ok (.aload_n 0, 1) := by decide +kernel
theorem d_X_search_34 : decode b_X_search 34 = .ok (.iconst 0, 1) := by decide +kernel
theorem d_X_search_35 : decode b_X_search 35 = .ok (.putfield 75, 3) := by decide +kernel
theorem d_X_search_38 : decode b_X_search 38 = .ok (.iconst 0, 1) := by decide +kernel
theorem d_X_search_39 : decode b_X_search 39 = .ok (.istore 4, 2) := by decide +kernel
theorem d_X_search_41 : decode b_X_search 41 = .ok (.iload 4, 2) := by decide +kernel
theorem d_X_search_43 : decode b_X_search 43 = .ok (.iload_n 3, 1) := by decide +kernel
theorem d_X_search_44 : decode b_X_search 44 = .ok (.if_icmp .gt 15, 3) := by decide +kernel
theorem d_X_search_47 : decode b_X_search 47 = .ok (.aload_n 0, 1) := by decide +kernel
theorem d_X_search_48 : decode b_X_search 48 = .ok (.iload 4, 2) := by decide +kernel
theorem d_X_search_50 : decode b_X_search 50 = .ok (.invokevirtual 106, 3) := by decide +kernel
theorem d_X_search_53 : decode b_X_search 53 = .ok (.iinc 4 1, 3) := by decide +kernel
theorem d_X_search_56 : decode b_X_search 56 = .ok (.goto (-15), 3) := by decide +kernel
theorem d_X_search_59 : decode b_X_search 59 = .ok (.aload_n 0, 1) := by decide +kernel
theorem d_X_search_60 : decode b_X_search 60 = .ok (.getfield 75, 3) := by decide +kernel
theorem d_X_search_63 : decode b_X_search 63 = .ok (.ireturn, 1) := by decide +kernel
theorem d_X_sharedLetters_0 : decode b_X_sharedLetters 0 = .ok (.iconst 0, 1) := by decide +kernel
theorem d_X_sharedLetters_1 : decode b_X_sharedLetters 1 = .ok (.istore 4, 2) := by decide +kernel
theorem d_X_sharedLetters_3 : decode b_X_sharedLetters 3 = .ok (.iload 4, 2) := by decide +kernel
theorem d_X_sharedLetters_5 : decode b_X_sharedLetters 5 = .ok (.bipush 12, 2) := by decide +kernel
theorem d_X_sharedLetters_7 : decode b_X_sharedLetters 7 = .ok (.if_icmp .ge 24, 3) := by decide +kernel
theorem d_X_sharedLetters_10 : decode b_X_sharedLetters 10 = .ok (.lload_n 0, 1) := by decide +kernel
theorem d_X_sharedLetters_11 : decode b_X_sharedLetters 11 = .ok (.iload 4, 2) := by decide +kernel
theorem d_X_sharedLetters_13 : decode b_X_sharedLetters 13 = .ok (.invokestatic 91, 3) := by decide +kernel
theorem d_X_sharedLetters_16 : decode b_X_sharedLetters 16 = .ok (.lload_n 2, 1) := by decide +kernel
theorem d_X_sharedLetters_17 : decode b_X_sharedLetters 17 = .ok (.iload 4, 2) := by decide +kernel
theorem d_X_sharedLetters_19 : decode b_X_sharedLetters 19 = .ok (.invokestatic 91, 3) := by decide +kernel
theorem d_X_sharedLetters_22 : decode b_X_sharedLetters 22 = .ok (.if_icmp .ne 9, 3) := by decide +kernel
theorem d_X_sharedLetters_25 : decode b_X_sharedLetters 25 = .ok (.iinc 4 1, 3) := by decide +kernel
theorem d_X_sharedLetters_28 : decode b_X_sharedLetters 28 = .ok (.goto (-25), 3) := by decide +kernel
theorem d_X_sharedLetters_31 : decode b_X_sharedLetters 31 = .ok (.iload 4, 2) := by decide +kernel
theorem d_X_sharedLetters_33 : decode b_X_sharedLetters 33 = .ok (.ireturn, 1) := by decide +kernel
theorem d_X_size_0 : decode b_X_size 0 = .ok (.aload_n 0, 1) := by decide +kernel
theorem d_X_size_1 : decode b_X_size 1 = .ok (.getfield 52, 3) := by decide +kernel
theorem d_X_size_4 : decode b_X_size 4 = .ok (.ireturn, 1) := by decide +kernel
theorem d_X_step_0 : decode b_X_step 0 = .ok (.aload_n 0, 1) := by decide +kernel
theorem d_X_step_1 : decode b_X_step 1 = .ok (.iload_n 1, 1) := by decide +kernel
theorem d_X_step_2 : decode b_X_step 2 = .ok (.invokevirtual 84, 3) := by decide +kernel
theorem d_X_step_5 : decode b_X_step 5 = .ok (.ifCond .eq 14, 3) := by decide +kernel
theorem d_X_step_8 : decode b_X_step 8 = .ok (.iload_n 2, 1) := by decide +kernel
theorem d_X_step_9 : decode b_X_step 9 = .ok (.iconst 1, 1) := by decide +kernel
theorem d_X_step_10 : decode b_X_step 10 = .ok (.if_icmp .lt 9, 3) := by decide +kernel
theorem d_X_step_13 : decode b_X_step 13 = .ok (.iload_n 2, 1) := by decide +kernel
theorem d_X_step_14 : decode b_X_step 14 = .ok (.bipush 26, 2) := by decide +kernel
theorem d_X_step_16 : decode b_X_step 16 = .ok (.if_icmp .le 5, 3) := by decide +kernel
theorem d_X_step_19 : decode b_X_step 19 = .ok (.iconst (-1), 1) := by decide +kernel
theorem d_X_step_20 : decode b_X_step 20 = .ok (.ireturn, 1) := by decide +kernel
theorem d_X_step_21 : decode b_X_step 21 = .ok (.aload_n 0, 1) := by decide +kernel
theorem d_X_step_22 : decode b_X_step 22 = .ok (.getfield 23, 3) := by decide +kernel
theorem d_X_step_25 : decode b_X_step 25 = .ok (.iload_n 1, 1) := by decide +kernel
theorem d_X_step_26 : decode b_X_step 26 = .ok (.iaload, 1) := by decide +kernel
theorem d_X_step_27 : decode b_X_step 27 = .ok (.istore_n 3, 1) := by decide +kernel
theorem d_X_step_28 : decode b_X_step 28 = .ok (.aload_n 0, 1) := by decide +kernel
theorem d_X_step_29 : decode b_X_step 29 = .ok (.getfield 26, 3) := by decide +kernel
theorem d_X_step_32 : decode b_X_step 32 = .ok (.iload_n 1, 1) := by decide +kernel
theorem d_X_step_33 : decode b_X_step 33 = .ok (.iaload, 1) := by decide +kernel
theorem d_X_step_34 : decode b_X_step 34 = .ok (.istore 4, 2) := by decide +kernel
theorem d_X_step_36 : decode b_X_step 36 = .ok (.iload_n 3, 1) := by decide +kernel
theorem d_X_step_37 : decode b_X_step 37 = .ok (.istore 5, 2) := by decide +kernel
theorem d_X_step_39 : decode b_X_step 39 = .ok (.iload 5, 2) := by decide +kernel
theorem d_X_step_41 : decode b_X_step 41 = .ok (.aload_n 0, 1) := by decide +kernel
theorem d_X_step_42 : decode b_X_step 42 = .ok (.getfield 52, 3) := by decide +kernel
theorem d_X_step_45 : decode b_X_step 45 = .ok (.if_icmp .ge 53, 3) := by decide +kernel
theorem d_X_step_48 : decode b_X_step 48 = .ok (.aload_n 0, 1) := by decide +kernel
theorem d_X_step_49 : decode b_X_step 49 = .ok (.iload 5, 2) := by decide +kernel
theorem d_X_step_51 : decode b_X_step 51 = .ok (.iload_n 3, 1) := by decide +kernel
theorem d_X_step_52 : decode b_X_step 52 = .ok (.iload 4, 2) := by decide +kernel
theorem d_X_step_54 : decode b_X_step 54 = .ok (.invokevirtual 87, 3) := by decide +kernel
theorem d_X_step_57 : decode b_X_step 57 = .ok (.ifCond .eq 41, 3) := by decide +kernel
theorem d_X_step_60 : decode b_X_step 60 = .ok (.aload_n 0, 1) := by decide +kernel
theorem d_X_step_61 : decode b_X_step 61 = .ok (.getfield 9, 3) := by decide +kernel
theorem d_X_step_64 : decode b_X_step 64 = .ok (.iload 5, 2) := by decide +kernel
theorem d_X_step_66 : decode b_X_step 66 = .ok (.laload, 1) := by decide +kernel
theorem d_X_step_67 : decode b_X_step 67 = .ok (.iload 4, 2) := by decide +kernel
theorem d_X_step_69 : decode b_X_step 69 = .ok (.invokestatic 91, 3) := by decide +kernel
theorem d_X_step_72 : decode b_X_step 72 = .ok (.iload_n 2, 1) := by decide +kernel
theorem d_X_step_73 : decode b_X_step 73 = .ok (.if_icmp .ne 19, 3) := by decide +kernel
theorem d_X_step_76 : decode b_X_step 76 = .ok (.aload_n 0, 1) := by decide +kernel
theorem d_X_step_77 : decode b_X_step 77 = .ok (.getfield 20, 3) := by decide +kernel
theorem d_X_step_80 : decode b_X_step 80 = .ok (.iload 5, 2) := by decide +kernel
theorem d_X_step_82 : decode b_X_step 82 = .ok (.bipush 13, 2) := by decide +kernel
theorem d_X_step_84 : decode b_X_step 84 = .ok (.imul, 1) := by decide +kernel
theorem d_X_step_85 : decode b_X_step 85 = .ok (.iload 4, 2) := by decide +kernel
theorem d_X_step_87 : decode b_X_step 87 = .ok (.iadd, 1) := by decide +kernel
theorem d_X_step_88 : decode b_X_step 88 = .ok (.iconst 1, 1) := by decide +kernel
theorem d_X_step_89 : decode b_X_step 89 = .ok (.iadd, 1) := by decide +kernel
theorem d_X_step_90 : decode b_X_step 90 = .ok (.iaload, 1) := by decide +kernel
theorem d_X_step_91 : decode b_X_step 91 = .ok (.ireturn, 1) := by decide +kernel
theorem d_X_step_92 : decode b_X_step 92 = .ok (.iinc 5 1, 3) := by decide +kernel
theorem d_X_step_95 : decode b_X_step 95 = .ok (.goto (-56), 3) := by decide +kernel
theorem d_X_step_98 : decode b_X_step 98 = .ok (.iconst (-1), 1) := by decide +kernel
theorem d_X_step_99 : decode b_X_step 99 = .ok (.ireturn, 1) := by decide +kernel
theorem d_X_takeResults_0 : decode b_X_takeResults 0 = .ok (.iconst 0, 1) := by decide +kernel
theorem d_X_takeResults_1 : decode b_X_takeResults 1 = .ok (.istore_n 2, 1) := by decide +kernel
theorem d_X_takeResults_2 : decode b_X_takeResults 2 = .ok (.iload_n 2, 1) := by decide +kernel
theorem d_X_takeResults_3 : decode b_X_takeResults 3 = .ok (.aload_n 0, 1) := by decide +kernel
theorem d_X_takeResults_4 : decode b_X_takeResults 4 = .ok (.getfield 52, 3) := by decide +kernel
theorem d_X_takeResults_7 : decode b_X_takeResults 7 = .ok (.if_icmp .ge 49, 3) := by decide +kernel
theorem d_X_takeResults_10 : decode b_X_takeResults 10 = .ok (.aload_n 0, 1) := by decide +kernel
theorem d_X_takeResults_11 : decode b_X_takeResults 11 = .ok (.getfield 38, 3) := by decide +kernel
theorem d_X_takeResults_14 : decode b_X_takeResults 14 = .ok (.iload_n 2, 1) := by decide +kernel
theorem d_X_takeResults_15 : decode b_X_takeResults 15 = .ok (.iaload, 1) := by decide +kernel
theorem d_X_takeResults_16 : decode b_X_takeResults 16 = .ok (.iload_n 1, 1) := by decide +kernel
theorem d_X_takeResults_17 : decode b_X_takeResults 17 = .ok (.if_icmp .ne 33, 3) := by decide +kernel
theorem d_X_takeResults_20 : decode b_X_takeResults 20 = .ok (.aload_n 0, 1) := by decide +kernel
theorem d_X_takeResults_21 : decode b_X_takeResults 21 = .ok (.getfield 29, 3) := by decide +kernel
theorem d_X_takeResults_24 : decode b_X_takeResults 24 = .ok (.aload_n 0, 1) := by decide +kernel
theorem d_X_takeResults_25 : decode b_X_takeResults 25 = .ok (.getfield 75, 3) := by decide +kernel
theorem d_X_takeResults_28 : decode b_X_takeResults 28 = .ok (.iload_n 2, 1) := by decide +kernel
theorem d_X_takeResults_29 : decode b_X_takeResults 29 = .ok (.iastore, 1) := by decide +kernel
theorem d_X_takeResults_30 : decode b_X_takeResults 30 = .ok (.aload_n 0, 1) := by decide +kernel
theorem d_X_takeResults_31 : decode b_X_takeResults 31 = .ok (.getfield 32, 3) := by decide +kernel
theorem d_X_takeResults_34 : decode b_X_takeResults 34 = .ok (.aload_n 0, 1) := by decide +kernel
theorem d_X_takeResults_35 : decode b_X_takeResults 35 = .ok (.getfield 75, 3) := by decide +kernel
theorem d_X_takeResults_38 : decode b_X_takeResults 38 = .ok (.iload_n 1, 1) := by decide +kernel
theorem d_X_takeResults_39 : decode b_X_takeResults 39 = .ok (.iastore, 1) := by decide +kernel
theorem d_X_takeResults_40 : decode b_X_takeResults 40 = .ok (.aload_n 0, 1) := by decide +kernel
theorem d_X_takeResults_41 : decode b_X_takeResults 41 = .ok (.dup, 1) := by decide +kernel
theorem d_X_takeResults_42 : decode b_X_takeResults 42 = .ok (.getfield 75, 3) := by decide +kernel
theorem d_X_takeResults_45 : decode b_X_takeResults 45 = .ok (.iconst 1, 1) := by decide +kernel
theorem d_X_takeResults_46 : decode b_X_takeResults 46 = .ok (.iadd, 1) := by decide +kernel
theorem d_X_takeResults_47 : decode b_X_takeResults 47 = .ok (.putfield 75, 3) := by decide +kernel
theorem d_X_takeResults_50 : decode b_X_takeResults 50 = .ok (.iinc 2 1, 3) := by decide +kernel
theorem d_X_takeResults_53 : decode b_X_takeResults 53 = .ok (.goto (-51), 3) := by decide +kernel
theorem d_X_takeResults_56 : decode b_X_takeResults 56 = .ok (.return_, 1) := by decide +kernel
theorem d_X_word_0 : decode b_X_word 0 = .ok (.aload_n 0, 1) := by decide +kernel
theorem d_X_word_1 : decode b_X_word 1 = .ok (.iload_n 1, 1) := by decide +kernel
theorem d_X_word_2 : decode b_X_word 2 = .ok (.invokevirtual 78, 3) := by decide +kernel
theorem d_X_word_5 : decode b_X_word 5 = .ok (.ifCond .eq 12, 3) := by decide +kernel
theorem d_X_word_8 : decode b_X_word 8 = .ok (.aload_n 0, 1) := by decide +kernel
theorem d_X_word_9 : decode b_X_word 9 = .ok (.getfield 9, 3) := by decide +kernel
theorem d_X_word_12 : decode b_X_word 12 = .ok (.iload_n 1, 1) := by decide +kernel
theorem d_X_word_13 : decode b_X_word 13 = .ok (.laload, 1) := by decide +kernel
theorem d_X_word_14 : decode b_X_word 14 = .ok (.goto 6, 3) := by decide +kernel
theorem d_X_word_17 : decode b_X_word 17 = .ok (.ldc2_w 82, 3) := by decide +kernel
theorem d_X_word_20 : decode b_X_word 20 = .ok (.lreturn, 1) := by decide +kernel
