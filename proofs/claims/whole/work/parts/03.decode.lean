theorem dX0_init_0 : decode cX0_init 0 = .ok (.aload_n 0, 1) := by decide +kernel
theorem dX0_init_1 : decode cX0_init 1 = .ok (.invokespecial 3, 3) := by decide +kernel
theorem dX0_init_4 : decode cX0_init 4 = .ok (.aload_n 0, 1) := by decide +kernel
theorem dX0_init_5 : decode cX0_init 5 = .ok (.iconst 0, 1) := by decide +kernel
theorem dX0_init_6 : decode cX0_init 6 = .ok (.putfield 9, 3) := by decide +kernel
theorem dX0_init_9 : decode cX0_init 9 = .ok (.aload_n 0, 1) := by decide +kernel
theorem dX0_init_10 : decode cX0_init 10 = .ok (.iconst 0, 1) := by decide +kernel
theorem dX0_init_11 : decode cX0_init 11 = .ok (.putfield 15, 3) := by decide +kernel
theorem dX0_init_14 : decode cX0_init 14 = .ok (.aload_n 0, 1) := by decide +kernel
theorem dX0_init_15 : decode cX0_init 15 = .ok (.iconst 4, 1) := by decide +kernel
theorem dX0_init_16 : decode cX0_init 16 = .ok (.newarray .int, 2) := by decide +kernel
theorem dX0_init_18 : decode cX0_init 18 = .ok (.putfield 18, 3) := by decide +kernel
theorem dX0_init_21 : decode cX0_init 21 = .ok (.aload_n 0, 1) := by decide +kernel
theorem dX0_init_22 : decode cX0_init 22 = .ok (.iconst 4, 1) := by decide +kernel
theorem dX0_init_23 : decode cX0_init 23 = .ok (.newarray .int, 2) := by decide +kernel
theorem dX0_init_25 : decode cX0_init 25 = .ok (.putfield 22, 3) := by decide +kernel
theorem dX0_init_28 : decode cX0_init 28 = .ok (.aload_n 0, 1) := by decide +kernel
theorem dX0_init_29 : decode cX0_init 29 = .ok (.iconst 4, 1) := by decide +kernel
theorem dX0_init_30 : decode cX0_init 30 = .ok (.newarray .int, 2) := by decide +kernel
theorem dX0_init_32 : decode cX0_init 32 = .ok (.putfield 25, 3) := by decide +kernel
theorem dX0_init_35 : decode cX0_init 35 = .ok (.aload_n 0, 1) := by decide +kernel
theorem dX0_init_36 : decode cX0_init 36 = .ok (.iconst 4, 1) := by decide +kernel
theorem dX0_init_37 : decode cX0_init 37 = .ok (.newarray .int, 2) := by decide +kernel
theorem dX0_init_39 : decode cX0_init 39 = .ok (.putfield 28, 3) := by decide +kernel
theorem dX0_init_42 : decode cX0_init 42 = .ok (.aload_n 0, 1) := by decide +kernel
theorem dX0_init_43 : decode cX0_init 43 = .ok (.iconst 4, 1) := by decide +kernel
theorem dX0_init_44 : decode cX0_init 44 = .ok (.newarray .int, 2) := by decide +kernel
theorem dX0_init_46 : decode cX0_init 46 = .ok (.putfield 31, 3) := by decide +kernel
theorem dX0_init_49 : decode cX0_init 49 = .ok (.return_, 1) := by decide +kernel
theorem dX0_empty_0 : decode cX0_empty 0 = .ok (.aload_n 0, 1) := by decide +kernel
theorem dX0_empty_1 : decode cX0_empty 1 = .ok (.iconst 0, 1) := by decide +kernel
theorem dX0_empty_2 : decode cX0_empty 2 = .ok (.putfield 9, 3) := by decide +kernel
theorem dX0_empty_5 : decode cX0_empty 5 = .ok (.aload_n 0, 1) := by decide +kernel
theorem dX0_empty_6 : decode cX0_empty 6 = .ok (.iconst 0, 1) := by decide +kernel
theorem dX0_empty_7 : decode cX0_empty 7 = .ok (.putfield 15, 3) := by decide +kernel
theorem dX0_empty_10 : decode cX0_empty 10 = .ok (.return_, 1) := by decide +kernel
theorem dX0_hasRoomFor_0 : decode cX0_hasRoomFor 0 = .ok (.aload_n 0, 1) := by decide +kernel
theorem dX0_hasRoomFor_1 : decode cX0_hasRoomFor 1 = .ok (.getfield 9, 3) := by decide +kernel
theorem dX0_hasRoomFor_4 : decode cX0_hasRoomFor 4 = .ok (.iconst 4, 1) := by decide +kernel
theorem dX0_hasRoomFor_5 : decode cX0_hasRoomFor 5 = .ok (.if_icmp .ge 20, 3) := by decide +kernel
theorem dX0_hasRoomFor_8 : decode cX0_hasRoomFor 8 = .ok (.iload_n 1, 1) := by decide +kernel
theorem dX0_hasRoomFor_9 : decode cX0_hasRoomFor 9 = .ok (.iconst 1, 1) := by decide +kernel
theorem dX0_hasRoomFor_10 : decode cX0_hasRoomFor 10 = .ok (.if_icmp .ne 11, 3) := by decide +kernel
theorem dX0_hasRoomFor_13 : decode cX0_hasRoomFor 13 = .ok (.aload_n 0, 1) := by decide +kernel
theorem dX0_hasRoomFor_14 : decode cX0_hasRoomFor 14 = .ok (.getfield 15, 3) := by decide +kernel
theorem dX0_hasRoomFor_17 : decode cX0_hasRoomFor 17 = .ok (.iconst 2, 1) := by decide +kernel
theorem dX0_hasRoomFor_18 : decode cX0_hasRoomFor 18 = .ok (.if_icmp .ge 7, 3) := by decide +kernel
theorem dX0_hasRoomFor_21 : decode cX0_hasRoomFor 21 = .ok (.iconst 1, 1) := by decide +kernel
theorem dX0_hasRoomFor_22 : decode cX0_hasRoomFor 22 = .ok (.goto 4, 3) := by decide +kernel
theorem dX0_hasRoomFor_25 : decode cX0_hasRoomFor 25 = .ok (.iconst 0, 1) := by decide +kernel
theorem dX0_hasRoomFor_26 : decode cX0_hasRoomFor 26 = .ok (.ireturn, 1) := by decide +kernel
theorem dX0_add_0 : decode cX0_add 0 = .ok (.aload_n 0, 1) := by decide +kernel
theorem dX0_add_1 : decode cX0_add 1 = .ok (.iload_n 1, 1) := by decide +kernel
theorem dX0_add_2 : decode cX0_add 2 = .ok (.invokevirtual 34, 3) := by decide +kernel
theorem dX0_add_5 : decode cX0_add 5 = .ok (.ifCond .ne 4, 3) := by decide +kernel
theorem dX0_add_8 : decode cX0_add 8 = .ok (.return_, 1) := by decide +kernel
theorem dX0_add_9 : decode cX0_add 9 = .ok (.aload_n 0, 1) := by decide +kernel
theorem dX0_add_10 : decode cX0_add 10 = .ok (.getfield 18, 3) := by decide +kernel
theorem dX0_add_13 : decode cX0_add 13 = .ok (.aload_n 0, 1) := by decide +kernel
theorem dX0_add_14 : decode cX0_add 14 = .ok (.getfield 9, 3) := by decide +kernel
theorem dX0_add_17 : decode cX0_add 17 = .ok (.iload_n 1, 1) := by decide +kernel
theorem dX0_add_18 : decode cX0_add 18 = .ok (.iastore, 1) := by decide +kernel
theorem dX0_add_19 : decode cX0_add 19 = .ok (.aload_n 0, 1) := by decide +kernel
theorem dX0_add_20 : decode cX0_add 20 = .ok (.getfield 22, 3) := by decide +kernel
theorem dX0_add_23 : decode cX0_add 23 = .ok (.aload_n 0, 1) := by decide +kernel
theorem dX0_add_24 : decode cX0_add 24 = .ok (.getfield 9, 3) := by decide +kernel
theorem dX0_add_27 : decode cX0_add 27 = .ok (.iload_n 2, 1) := by decide +kernel
theorem dX0_add_28 : decode cX0_add 28 = .ok (.iastore, 1) := by decide +kernel
theorem dX0_add_29 : decode cX0_add 29 = .ok (.aload_n 0, 1) := by decide +kernel
theorem dX0_add_30 : decode cX0_add 30 = .ok (.getfield 25, 3) := by decide +kernel
theorem dX0_add_33 : decode cX0_add 33 = .ok (.aload_n 0, 1) := by decide +kernel
theorem dX0_add_34 : decode cX0_add 34 = .ok (.getfield 9, 3) := by decide +kernel
theorem dX0_add_37 : decode cX0_add 37 = .ok (.iload_n 3, 1) := by decide +kernel
theorem dX0_add_38 : decode cX0_add 38 = .ok (.iastore, 1) := by decide +kernel
theorem dX0_add_39 : decode cX0_add 39 = .ok (.aload_n 0, 1) := by decide +kernel
theorem dX0_add_40 : decode cX0_add 40 = .ok (.getfield 28, 3) := by decide +kernel
theorem dX0_add_43 : decode cX0_add 43 = .ok (.aload_n 0, 1) := by decide +kernel
theorem dX0_add_44 : decode cX0_add 44 = .ok (.getfield 9, 3) := by decide +kernel
theorem dX0_add_47 : decode cX0_add 47 = .ok (.iload 4, 2) := by decide +kernel
theorem dX0_add_49 : decode cX0_add 49 = .ok (.iastore, 1) := by decide +kernel
theorem dX0_add_50 : decode cX0_add 50 = .ok (.aload_n 0, 1) := by decide +kernel
theorem dX0_add_51 : decode cX0_add 51 = .ok (.getfield 31, 3) := by decide +kernel
theorem dX0_add_54 : decode cX0_add 54 = .ok (.aload_n 0, 1) := by decide +kernel
theorem dX0_add_55 : decode cX0_add 55 = .ok (.getfield 9, 3) := by decide +kernel
theorem dX0_add_58 : decode cX0_add 58 = .ok (.iload 5, 2) := by decide +kernel
theorem dX0_add_60 : decode cX0_add 60 = .ok (.iastore, 1) := by decide +kernel
theorem dX0_add_61 : decode cX0_add 61 = .ok (.aload_n 0, 1) := by decide +kernel
theorem dX0_add_62 : decode cX0_add 62 = .ok (.dup, 1) := by decide +kernel
theorem dX0_add_63 : decode cX0_add 63 = .ok (.getfield 9, 3) := by decide +kernel
theorem dX0_add_66 : decode cX0_add 66 = .ok (.iconst 1, 1) := by decide +kernel
theorem dX0_add_67 : decode cX0_add 67 = .ok (.iadd, 1) := by decide +kernel
theorem dX0_add_68 : decode cX0_add 68 = .ok (.putfield 9, 3) := by decide +kernel
theorem dX0_add_71 : decode cX0_add 71 = .ok (.iload_n 1, 1) := by decide +kernel
theorem dX0_add_72 : decode cX0_add 72 = .ok (.iconst 1, 1) := by decide +kernel
theorem dX0_add_73 : decode cX0_add 73 = .ok (.if_icmp .ne 13, 3) := by decide +kernel
theorem dX0_add_76 : decode cX0_add 76 = .ok (.aload_n 0, 1) := by decide +kernel
theorem dX0_add_77 : decode cX0_add 77 = .ok (.dup, 1) := by decide +kernel
theorem dX0_add_78 : decode cX0_add 78 = .ok (.getfield 15, 3) := by decide +kernel
theorem dX0_add_81 : decode cX0_add 81 = .ok (.iconst 1, 1) := by decide +kernel
theorem dX0_add_82 : decode cX0_add 82 = .ok (.iadd, 1) := by decide +kernel
theorem dX0_add_83 : decode cX0_add 83 = .ok (.putfield 15, 3) := by decide +kernel
theorem dX0_add_86 : decode cX0_add 86 = .ok (.return_, 1) := by decide +kernel
theorem dX0_become_0 : decode cX0_become 0 = .ok (.aload_n 0, 1) := by decide +kernel
theorem dX0_become_1 : decode cX0_become 1 = .ok (.invokevirtual 38, 3) := by decide +kernel
theorem dX0_become_4 : decode cX0_become 4 = .ok (.iconst 0, 1) := by decide +kernel
theorem dX0_become_5 : decode cX0_become 5 = .ok (.istore_n 2, 1) := by decide +kernel
theorem dX0_become_6 : decode cX0_become 6 = .ok (.iload_n 2, 1) := by decide +kernel
theorem dX0_become_7 : decode cX0_become 7 = .ok (.aload_n 1, 1) := by decide +kernel
theorem dX0_become_8 : decode cX0_become 8 = .ok (.getfield 9, 3) := by decide +kernel
theorem dX0_become_11 : decode cX0_become 11 = .ok (.if_icmp .ge 43, 3) := by decide +kernel
theorem dX0_become_14 : decode cX0_become 14 = .ok (.aload_n 0, 1) := by decide +kernel
theorem dX0_become_15 : decode cX0_become 15 = .ok (.aload_n 1, 1) := by decide +kernel
theorem dX0_become_16 : decode cX0_become 16 = .ok (.getfield 18, 3) := by decide +kernel
theorem dX0_become_19 : decode cX0_become 19 = .ok (.iload_n 2, 1) := by decide +kernel
theorem dX0_become_20 : decode cX0_become 20 = .ok (.iaload, 1) := by decide +kernel
theorem dX0_become_21 : decode cX0_become 21 = .ok (.aload_n 1, 1) := by decide +kernel
theorem dX0_become_22 : decode cX0_become 22 = .ok (.getfield 22, 3) := by decide +kernel
theorem dX0_become_25 : decode cX0_become 25 = .ok (.iload_n 2, 1) := by decide +kernel
theorem dX0_become_26 : decode cX0_become 26 = .ok (.iaload, 1) := by decide +kernel
theorem dX0_become_27 : decode cX0_become 27 = .ok (.aload_n 1, 1) := by decide +kernel
theorem dX0_become_28 : decode cX0_become 28 = .ok (.getfield 25, 3) := by decide +kernel
theorem dX0_become_31 : decode cX0_become 31 = .ok (.iload_n 2, 1) := by decide +kernel
theorem dX0_become_32 : decode cX0_become 32 = .ok (.iaload, 1) := by decide +kernel
theorem dX0_become_33 : decode cX0_become 33 = .ok (.aload_n 1, 1) := by decide +kernel
theorem dX0_become_34 : decode cX0_become 34 = .ok (.getfield 28, 3) := by decide +kernel
theorem dX0_become_37 : decode cX0_become 37 = .ok (.iload_n 2, 1) := by decide +kernel
theorem dX0_become_38 : decode cX0_become 38 = .ok (.iaload, 1) := by decide +kernel
theorem dX0_become_39 : decode cX0_become 39 = .ok (.aload_n 1, 1) := by decide +kernel
theorem dX0_become_40 : decode cX0_become 40 = .ok (.getfield 31, 3) := by decide +kernel
theorem dX0_become_43 : decode cX0_become 43 = .ok (.iload_n 2, 1) := by decide +kernel
theorem dX0_become_44 : decode cX0_become 44 = .ok (.iaload, 1) := by decide +kernel
theorem dX0_become_45 : decode cX0_become 45 = .ok (.invokevirtual 41, 3) := by decide +kernel
theorem dX0_become_48 : decode cX0_become 48 = .ok (.iinc 2 1, 3) := by decide +kernel
theorem dX0_become_51 : decode cX0_become 51 = .ok (.goto (-45), 3) := by decide +kernel
theorem dX0_become_54 : decode cX0_become 54 = .ok (.return_, 1) := by decide +kernel
theorem dX0_manages_0 : decode cX0_manages 0 = .ok (.iload 4, 2) := by decide +kernel
theorem dX0_manages_2 : decode cX0_manages 2 = .ok (.invokestatic 45, 3) := by decide +kernel
theorem dX0_manages_5 : decode cX0_manages 5 = .ok (.istore 5, 2) := by decide +kernel
theorem dX0_manages_7 : decode cX0_manages 7 = .ok (.iload 5, 2) := by decide +kernel
theorem dX0_manages_9 : decode cX0_manages 9 = .ok (.ifCond .ne 5, 3) := by decide +kernel
theorem dX0_manages_12 : decode cX0_manages 12 = .ok (.iconst 1, 1) := by decide +kernel
theorem dX0_manages_13 : decode cX0_manages 13 = .ok (.ireturn, 1) := by decide +kernel
theorem dX0_manages_14 : decode cX0_manages 14 = .ok (.iload 5, 2) := by decide +kernel
theorem dX0_manages_16 : decode cX0_manages 16 = .ok (.aload_n 0, 1) := by decide +kernel
theorem dX0_manages_17 : decode cX0_manages 17 = .ok (.getfield 18, 3) := by decide +kernel
theorem dX0_manages_20 : decode cX0_manages 20 = .ok (.iload_n 1, 1) := by decide +kernel
theorem dX0_manages_21 : decode cX0_manages 21 = .ok (.iaload, 1) := by decide +kernel
theorem dX0_manages_22 : decode cX0_manages 22 = .ok (.iconst 1, 1) := by decide +kernel
theorem dX0_manages_23 : decode cX0_manages 23 = .ok (.if_icmp .ne 7, 3) := by decide +kernel
theorem dX0_manages_26 : decode cX0_manages 26 = .ok (.iconst 2, 1) := by decide +kernel
theorem dX0_manages_27 : decode cX0_manages 27 = .ok (.goto 4, 3) := by decide +kernel
theorem dX0_manages_30 : decode cX0_manages 30 = .ok (.iconst 1, 1) := by decide +kernel
theorem dX0_manages_31 : decode cX0_manages 31 = .ok (.if_icmp .le 5, 3) := by decide +kernel
theorem dX0_manages_34 : decode cX0_manages 34 = .ok (.iconst 0, 1) := by decide +kernel
theorem dX0_manages_35 : decode cX0_manages 35 = .ok (.ireturn, 1) := by decide +kernel
theorem dX0_manages_36 : decode cX0_manages 36 = .ok (.aload_n 2, 1) := by decide +kernel
theorem dX0_manages_37 : decode cX0_manages 37 = .ok (.iload_n 3, 1) := by decide +kernel
theorem dX0_manages_38 : decode cX0_manages 38 = .ok (.iload 4, 2) := by decide +kernel
theorem dX0_manages_40 : decode cX0_manages 40 = .ok (.invokevirtual 51, 3) := by decide +kernel
theorem dX0_manages_43 : decode cX0_manages 43 = .ok (.istore 6, 2) := by decide +kernel
theorem dX0_manages_45 : decode cX0_manages 45 = .ok (.aload_n 2, 1) := by decide +kernel
theorem dX0_manages_46 : decode cX0_manages 46 = .ok (.iload_n 3, 1) := by decide +kernel
theorem dX0_manages_47 : decode cX0_manages 47 = .ok (.iload 4, 2) := by decide +kernel
theorem dX0_manages_49 : decode cX0_manages 49 = .ok (.invokevirtual 57, 3) := by decide +kernel
theorem dX0_manages_52 : decode cX0_manages 52 = .ok (.istore 7, 2) := by decide +kernel
theorem dX0_manages_54 : decode cX0_manages 54 = .ok (.iload 6, 2) := by decide +kernel
theorem dX0_manages_56 : decode cX0_manages 56 = .ok (.aload_n 0, 1) := by decide +kernel
theorem dX0_manages_57 : decode cX0_manages 57 = .ok (.getfield 22, 3) := by decide +kernel
theorem dX0_manages_60 : decode cX0_manages 60 = .ok (.iload_n 1, 1) := by decide +kernel
theorem dX0_manages_61 : decode cX0_manages 61 = .ok (.iaload, 1) := by decide +kernel
theorem dX0_manages_62 : decode cX0_manages 62 = .ok (.if_icmp .lt 38, 3) := by decide +kernel
theorem dX0_manages_65 : decode cX0_manages 65 = .ok (.iload 7, 2) := by decide +kernel
theorem dX0_manages_67 : decode cX0_manages 67 = .ok (.aload_n 0, 1) := by decide +kernel
theorem dX0_manages_68 : decode cX0_manages 68 = .ok (.getfield 25, 3) := by decide +kernel
theorem dX0_manages_71 : decode cX0_manages 71 = .ok (.iload_n 1, 1) := by decide +kernel
theorem dX0_manages_72 : decode cX0_manages 72 = .ok (.iaload, 1) := by decide +kernel
theorem dX0_manages_73 : decode cX0_manages 73 = .ok (.if_icmp .gt 27, 3) := by decide +kernel
theorem dX0_manages_76 : decode cX0_manages 76 = .ok (.iload 5, 2) := by decide +kernel
theorem dX0_manages_78 : decode cX0_manages 78 = .ok (.iconst 1, 1) := by decide +kernel
theorem dX0_manages_79 : decode cX0_manages 79 = .ok (.if_icmp .eq 17, 3) := by decide +kernel
theorem dX0_manages_82 : decode cX0_manages 82 = .ok (.iload 7, 2) := by decide +kernel
theorem dX0_manages_84 : decode cX0_manages 84 = .ok (.iload 6, 2) := by decide +kernel
theorem dX0_manages_86 : decode cX0_manages 86 = .ok (.isub, 1) := by decide +kernel
theorem dX0_manages_87 : decode cX0_manages 87 = .ok (.aload_n 0, 1) := by decide +kernel
theorem dX0_manages_88 : decode cX0_manages 88 = .ok (.getfield 31, 3) := by decide +kernel
theorem dX0_manages_91 : decode cX0_manages 91 = .ok (.iload_n 1, 1) := by decide +kernel
theorem dX0_manages_92 : decode cX0_manages 92 = .ok (.iaload, 1) := by decide +kernel
theorem dX0_manages_93 : decode cX0_manages 93 = .ok (.if_icmp .gt 7, 3) := by decide +kernel
theorem dX0_manages_96 : decode cX0_manages 96 = .ok (.iconst 1, 1) := by decide +kernel
theorem dX0_manages_97 : decode cX0_manages 97 = .ok (.goto 4, 3) := by decide +kernel
theorem dX0_manages_100 : decode cX0_manages 100 = .ok (.iconst 0, 1) := by decide +kernel
theorem dX0_manages_101 : decode cX0_manages 101 = .ok (.ireturn, 1) := by decide +kernel
theorem dX0_strength_0 : decode cX0_strength 0 = .ok (.iload_n 2, 1) := by decide +kernel
theorem dX0_strength_1 : decode cX0_strength 1 = .ok (.invokestatic 45, 3) := by decide +kernel
theorem dX0_strength_4 : decode cX0_strength 4 = .ok (.iconst 2, 1) := by decide +kernel
theorem dX0_strength_5 : decode cX0_strength 5 = .ok (.if_icmp .ne 14, 3) := by decide +kernel
theorem dX0_strength_8 : decode cX0_strength 8 = .ok (.aload_n 0, 1) := by decide +kernel
theorem dX0_strength_9 : decode cX0_strength 9 = .ok (.getfield 28, 3) := by decide +kernel
theorem dX0_strength_12 : decode cX0_strength 12 = .ok (.iload_n 1, 1) := by decide +kernel
theorem dX0_strength_13 : decode cX0_strength 13 = .ok (.iaload, 1) := by decide +kernel
theorem dX0_strength_14 : decode cX0_strength 14 = .ok (.iconst 1, 1) := by decide +kernel
theorem dX0_strength_15 : decode cX0_strength 15 = .ok (.ishr, 1) := by decide +kernel
theorem dX0_strength_16 : decode cX0_strength 16 = .ok (.goto 9, 3) := by decide +kernel
theorem dX0_strength_19 : decode cX0_strength 19 = .ok (.aload_n 0, 1) := by decide +kernel
theorem dX0_strength_20 : decode cX0_strength 20 = .ok (.getfield 28, 3) := by decide +kernel
theorem dX0_strength_23 : decode cX0_strength 23 = .ok (.iload_n 1, 1) := by decide +kernel
theorem dX0_strength_24 : decode cX0_strength 24 = .ok (.iaload, 1) := by decide +kernel
theorem dX0_strength_25 : decode cX0_strength 25 = .ok (.ireturn, 1) := by decide +kernel
theorem dX1_init_0 : decode cX1_init 0 = .ok (.aload_n 0, 1) := by decide +kernel
theorem dX1_init_1 : decode cX1_init 1 = .ok (.invokespecial 3, 3) := by decide +kernel
theorem dX1_init_4 : decode cX1_init 4 = .ok (.aload_n 0, 1) := by decide +kernel
theorem dX1_init_5 : decode cX1_init 5 = .ok (.iconst 0, 1) := by decide +kernel
theorem dX1_init_6 : decode cX1_init 6 = .ok (.putfield 9, 3) := by decide +kernel
theorem dX1_init_9 : decode cX1_init 9 = .ok (.aload_n 0, 1) := by decide +kernel
theorem dX1_init_10 : decode cX1_init 10 = .ok (.iconst 0, 1) := by decide +kernel
theorem dX1_init_11 : decode cX1_init 11 = .ok (.putfield 15, 3) := by decide +kernel
theorem dX1_init_14 : decode cX1_init 14 = .ok (.aload_n 0, 1) := by decide +kernel
theorem dX1_init_15 : decode cX1_init 15 = .ok (.iconst 5, 1) := by decide +kernel
theorem dX1_init_16 : decode cX1_init 16 = .ok (.putfield 18, 3) := by decide +kernel
theorem dX1_init_19 : decode cX1_init 19 = .ok (.aload_n 0, 1) := by decide +kernel
theorem dX1_init_20 : decode cX1_init 20 = .ok (.bipush 9, 2) := by decide +kernel
theorem dX1_init_22 : decode cX1_init 22 = .ok (.putfield 21, 3) := by decide +kernel
theorem dX1_init_25 : decode cX1_init 25 = .ok (.aload_n 0, 1) := by decide +kernel
theorem dX1_init_26 : decode cX1_init 26 = .ok (.bipush 24, 2) := by decide +kernel
theorem dX1_init_28 : decode cX1_init 28 = .ok (.newarray .int, 2) := by decide +kernel
theorem dX1_init_30 : decode cX1_init 30 = .ok (.putfield 24, 3) := by decide +kernel
theorem dX1_init_33 : decode cX1_init 33 = .ok (.return_, 1) := by decide +kernel
theorem dX1_empty_0 : decode cX1_empty 0 = .ok (.aload_n 0, 1) := by decide +kernel
theorem dX1_empty_1 : decode cX1_empty 1 = .ok (.iconst 0, 1) := by decide +kernel
theorem dX1_empty_2 : decode cX1_empty 2 = .ok (.putfield 9, 3) := by decide +kernel
theorem dX1_empty_5 : decode cX1_empty 5 = .ok (.aload_n 0, 1) := by decide +kernel
theorem dX1_empty_6 : decode cX1_empty 6 = .ok (.iconst 0, 1) := by decide +kernel
theorem dX1_empty_7 : decode cX1_empty 7 = .ok (.putfield 15, 3) := by decide +kernel
theorem dX1_empty_10 : decode cX1_empty 10 = .ok (.aload_n 0, 1) := by decide +kernel
theorem dX1_empty_11 : decode cX1_empty 11 = .ok (.iconst 5, 1) := by decide +kernel
theorem dX1_empty_12 : decode cX1_empty 12 = .ok (.putfield 18, 3) := by decide +kernel
theorem dX1_empty_15 : decode cX1_empty 15 = .ok (.aload_n 0, 1) := by decide +kernel
theorem dX1_empty_16 : decode cX1_empty 16 = .ok (.bipush 9, 2) := by decide +kernel
theorem dX1_empty_18 : decode cX1_empty 18 = .ok (.putfield 21, 3) := by decide +kernel
theorem dX1_empty_21 : decode cX1_empty 21 = .ok (.return_, 1) := by decide +kernel
theorem dX1_noteAt_0 : decode cX1_noteAt 0 = .ok (.aload_n 0, 1) := by decide +kernel
theorem dX1_noteAt_1 : decode cX1_noteAt 1 = .ok (.getfield 24, 3) := by decide +kernel
theorem dX1_noteAt_4 : decode cX1_noteAt 4 = .ok (.iload_n 1, 1) := by decide +kernel
theorem dX1_noteAt_5 : decode cX1_noteAt 5 = .ok (.iconst 3, 1) := by decide +kernel
theorem dX1_noteAt_6 : decode cX1_noteAt 6 = .ok (.imul, 1) := by decide +kernel
theorem dX1_noteAt_7 : decode cX1_noteAt 7 = .ok (.iload_n 2, 1) := by decide +kernel
theorem dX1_noteAt_8 : decode cX1_noteAt 8 = .ok (.iadd, 1) := by decide +kernel
theorem dX1_noteAt_9 : decode cX1_noteAt 9 = .ok (.iaload, 1) := by decide +kernel
theorem dX1_noteAt_10 : decode cX1_noteAt 10 = .ok (.ireturn, 1) := by decide +kernel
theorem dX1_notesOf_0 : decode cX1_notesOf 0 = .ok (.iconst 0, 1) := by decide +kernel
theorem dX1_notesOf_1 : decode cX1_notesOf 1 = .ok (.istore_n 2, 1) := by decide +kernel
theorem dX1_notesOf_2 : decode cX1_notesOf 2 = .ok (.iload_n 2, 1) := by decide +kernel
theorem dX1_notesOf_3 : decode cX1_notesOf 3 = .ok (.iconst 3, 1) := by decide +kernel
theorem dX1_notesOf_4 : decode cX1_notesOf 4 = .ok (.if_icmp .ge 19, 3) := by decide +kernel
theorem dX1_notesOf_7 : decode cX1_notesOf 7 = .ok (.aload_n 0, 1) := by decide +kernel
theorem dX1_notesOf_8 : decode cX1_notesOf 8 = .ok (.iload_n 1, 1) := by decide +kernel
theorem dX1_notesOf_9 : decode cX1_notesOf 9 = .ok (.iload_n 2, 1) := by decide +kernel
theorem dX1_notesOf_10 : decode cX1_notesOf 10 = .ok (.invokevirtual 28, 3) := by decide +kernel
theorem dX1_notesOf_13 : decode cX1_notesOf 13 = .ok (.iconst (-1), 1) := by decide +kernel
theorem dX1_notesOf_14 : decode cX1_notesOf 14 = .ok (.if_icmp .eq 9, 3) := by decide +kernel
theorem dX1_notesOf_17 : decode cX1_notesOf 17 = .ok (.iinc 2 1, 3) := by decide +kernel
theorem dX1_notesOf_20 : decode cX1_notesOf 20 = .ok (.goto (-18), 3) := by decide +kernel
theorem dX1_notesOf_23 : decode cX1_notesOf 23 = .ok (.iload_n 2, 1) := by decide +kernel
theorem dX1_notesOf_24 : decode cX1_notesOf 24 = .ok (.ireturn, 1) := by decide +kernel
theorem dX1_isThat_0 : decode cX1_isThat 0 = .ok (.aload_n 0, 1) := by decide +kernel
theorem dX1_isThat_1 : decode cX1_isThat 1 = .ok (.iload_n 1, 1) := by decide +kernel
theorem dX1_isThat_2 : decode cX1_isThat 2 = .ok (.iconst 0, 1) := by decide +kernel
theorem dX1_isThat_3 : decode cX1_isThat 3 = .ok (.invokevirtual 28, 3) := by decide +kernel
theorem dX1_isThat_6 : decode cX1_isThat 6 = .ok (.iload_n 2, 1) := by decide +kernel
theorem dX1_isThat_7 : decode cX1_isThat 7 = .ok (.if_icmp .ne 28, 3) := by decide +kernel
theorem dX1_isThat_10 : decode cX1_isThat 10 = .ok (.aload_n 0, 1) := by decide +kernel
theorem dX1_isThat_11 : decode cX1_isThat 11 = .ok (.iload_n 1, 1) := by decide +kernel
theorem dX1_isThat_12 : decode cX1_isThat 12 = .ok (.iconst 1, 1) := by decide +kernel
theorem dX1_isThat_13 : decode cX1_isThat 13 = .ok (.invokevirtual 28, 3) := by decide +kernel
theorem dX1_isThat_16 : decode cX1_isThat 16 = .ok (.iload_n 3, 1) := by decide +kernel
theorem dX1_isThat_17 : decode cX1_isThat 17 = .ok (.if_icmp .ne 18, 3) := by decide +kernel
theorem dX1_isThat_20 : decode cX1_isThat 20 = .ok (.aload_n 0, 1) := by decide +kernel
theorem dX1_isThat_21 : decode cX1_isThat 21 = .ok (.iload_n 1, 1) := by decide +kernel
theorem dX1_isThat_22 : decode cX1_isThat 22 = .ok (.iconst 2, 1) := by decide +kernel
theorem dX1_isThat_23 : decode cX1_isThat 23 = .ok (.invokevirtual 28, 3) := by decide +kernel
theorem dX1_isThat_26 : decode cX1_isThat 26 = .ok (.iload 4, 2) := by decide +kernel
theorem dX1_isThat_28 : decode cX1_isThat 28 = .ok (.if_icmp .ne 7, 3) := by decide +kernel
theorem dX1_isThat_31 : decode cX1_isThat 31 = .ok (.iconst 1, 1) := by decide +kernel
theorem dX1_isThat_32 : decode cX1_isThat 32 = .ok (.goto 4, 3) := by decide +kernel
theorem dX1_isThat_35 : decode cX1_isThat 35 = .ok (.iconst 0, 1) := by decide +kernel
theorem dX1_isThat_36 : decode cX1_isThat 36 = .ok (.ireturn, 1) := by decide +kernel
theorem dX1_put_0 : decode cX1_put 0 = .ok (.iload_n 1, 1) := by decide +kernel
theorem dX1_put_1 : decode cX1_put 1 = .ok (.ifCond .lt 17, 3) := by decide +kernel
theorem dX1_put_4 : decode cX1_put 4 = .ok (.iload_n 1, 1) := by decide +kernel
theorem dX1_put_5 : decode cX1_put 5 = .ok (.aload_n 0, 1) := by decide +kernel
theorem dX1_put_6 : decode cX1_put 6 = .ok (.getfield 9, 3) := by decide +kernel
theorem dX1_put_9 : decode cX1_put 9 = .ok (.if_icmp .gt 9, 3) := by decide +kernel
theorem dX1_put_12 : decode cX1_put 12 = .ok (.iload_n 1, 1) := by decide +kernel
theorem dX1_put_13 : decode cX1_put 13 = .ok (.bipush 8, 2) := by decide +kernel
theorem dX1_put_15 : decode cX1_put 15 = .ok (.if_icmp .lt 4, 3) := by decide +kernel
theorem dX1_put_18 : decode cX1_put 18 = .ok (.return_, 1) := by decide +kernel
theorem dX1_put_19 : decode cX1_put 19 = .ok (.aload_n 0, 1) := by decide +kernel
theorem dX1_put_20 : decode cX1_put 20 = .ok (.getfield 24, 3) := by decide +kernel
theorem dX1_put_23 : decode cX1_put 23 = .ok (.iload_n 1, 1) := by decide +kernel
theorem dX1_put_24 : decode cX1_put 24 = .ok (.iconst 3, 1) := by decide +kernel
theorem dX1_put_25 : decode cX1_put 25 = .ok (.imul, 1) := by decide +kernel
theorem dX1_put_26 : decode cX1_put 26 = .ok (.iload_n 2, 1) := by decide +kernel
theorem dX1_put_27 : decode cX1_put 27 = .ok (.iastore, 1) := by decide +kernel
theorem dX1_put_28 : decode cX1_put 28 = .ok (.aload_n 0, 1) := by decide +kernel
theorem dX1_put_29 : decode cX1_put 29 = .ok (.getfield 24, 3) := by decide +kernel
theorem dX1_put_32 : decode cX1_put 32 = .ok (.iload_n 1, 1) := by decide +kernel
theorem dX1_put_33 : decode cX1_put 33 = .ok (.iconst 3, 1) := by decide +kernel
theorem dX1_put_34 : decode cX1_put 34 = .ok (.imul, 1) := by decide +kernel
theorem dX1_put_35 : decode cX1_put 35 = .ok (.iconst 1, 1) := by decide +kernel
theorem dX1_put_36 : decode cX1_put 36 = .ok (.iadd, 1) := by decide +kernel
theorem dX1_put_37 : decode cX1_put 37 = .ok (.iload_n 3, 1) := by decide +kernel
theorem dX1_put_38 : decode cX1_put 38 = .ok (.iastore, 1) := by decide +kernel
theorem dX1_put_39 : decode cX1_put 39 = .ok (.aload_n 0, 1) := by decide +kernel
theorem dX1_put_40 : decode cX1_put 40 = .ok (.getfield 24, 3) := by decide +kernel
theorem dX1_put_43 : decode cX1_put 43 = .ok (.iload_n 1, 1) := by decide +kernel
theorem dX1_put_44 : decode cX1_put 44 = .ok (.iconst 3, 1) := by decide +kernel
theorem dX1_put_45 : decode cX1_put 45 = .ok (.imul, 1) := by decide +kernel
theorem dX1_put_46 : decode cX1_put 46 = .ok (.iconst 2, 1) := by decide +kernel
theorem dX1_put_47 : decode cX1_put 47 = .ok (.iadd, 1) := by decide +kernel
theorem dX1_put_48 : decode cX1_put 48 = .ok (.iload 4, 2) := by decide +kernel
theorem dX1_put_50 : decode cX1_put 50 = .ok (.iastore, 1) := by decide +kernel
theorem dX1_put_51 : decode cX1_put 51 = .ok (.iload_n 1, 1) := by decide +kernel
theorem dX1_put_52 : decode cX1_put 52 = .ok (.aload_n 0, 1) := by decide +kernel
theorem dX1_put_53 : decode cX1_put 53 = .ok (.getfield 9, 3) := by decide +kernel
theorem dX1_put_56 : decode cX1_put 56 = .ok (.if_icmp .ne 13, 3) := by decide +kernel
theorem dX1_put_59 : decode cX1_put 59 = .ok (.aload_n 0, 1) := by decide +kernel
theorem dX1_put_60 : decode cX1_put 60 = .ok (.dup, 1) := by decide +kernel
theorem dX1_put_61 : decode cX1_put 61 = .ok (.getfield 9, 3) := by decide +kernel
theorem dX1_put_64 : decode cX1_put 64 = .ok (.iconst 1, 1) := by decide +kernel
theorem dX1_put_65 : decode cX1_put 65 = .ok (.iadd, 1) := by decide +kernel
theorem dX1_put_66 : decode cX1_put 66 = .ok (.putfield 9, 3) := by decide +kernel
theorem dX1_put_69 : decode cX1_put 69 = .ok (.return_, 1) := by decide +kernel
theorem dX1_take_0 : decode cX1_take 0 = .ok (.iload_n 1, 1) := by decide +kernel
theorem dX1_take_1 : decode cX1_take 1 = .ok (.iconst 3, 1) := by decide +kernel
theorem dX1_take_2 : decode cX1_take 2 = .ok (.imul, 1) := by decide +kernel
theorem dX1_take_3 : decode cX1_take 3 = .ok (.istore_n 2, 1) := by decide +kernel
theorem dX1_take_4 : decode cX1_take 4 = .ok (.iload_n 2, 1) := by decide +kernel
theorem dX1_take_5 : decode cX1_take 5 = .ok (.aload_n 0, 1) := by decide +kernel
theorem dX1_take_6 : decode cX1_take 6 = .ok (.getfield 9, 3) := by decide +kernel
theorem dX1_take_9 : decode cX1_take 9 = .ok (.iconst 1, 1) := by decide +kernel
theorem dX1_take_10 : decode cX1_take 10 = .ok (.isub, 1) := by decide +kernel
theorem dX1_take_11 : decode cX1_take 11 = .ok (.iconst 3, 1) := by decide +kernel
theorem dX1_take_12 : decode cX1_take 12 = .ok (.imul, 1) := by decide +kernel
theorem dX1_take_13 : decode cX1_take 13 = .ok (.if_icmp .ge 23, 3) := by decide +kernel
theorem dX1_take_16 : decode cX1_take 16 = .ok (.aload_n 0, 1) := by decide +kernel
theorem dX1_take_17 : decode cX1_take 17 = .ok (.getfield 24, 3) := by decide +kernel
theorem dX1_take_20 : decode cX1_take 20 = .ok (.iload_n 2, 1) := by decide +kernel
theorem dX1_take_21 : decode cX1_take 21 = .ok (.aload_n 0, 1) := by decide +kernel
theorem dX1_take_22 : decode cX1_take 22 = .ok (.getfield 24, 3) := by decide +kernel
theorem dX1_take_25 : decode cX1_take 25 = .ok (.iload_n 2, 1) := by decide +kernel
theorem dX1_take_26 : decode cX1_take 26 = .ok (.iconst 3, 1) := by decide +kernel
theorem dX1_take_27 : decode cX1_take 27 = .ok (.iadd, 1) := by decide +kernel
theorem dX1_take_28 : decode cX1_take 28 = .ok (.iaload, 1) := by decide +kernel
theorem dX1_take_29 : decode cX1_take 29 = .ok (.iastore, 1) := by decide +kernel
theorem dX1_take_30 : decode cX1_take 30 = .ok (.iinc 2 1, 3) := by decide +kernel
theorem dX1_take_33 : decode cX1_take 33 = .ok (.goto (-29), 3) := by decide +kernel
theorem dX1_take_36 : decode cX1_take 36 = .ok (.aload_n 0, 1) := by decide +kernel
theorem dX1_take_37 : decode cX1_take 37 = .ok (.dup, 1) := by decide +kernel
theorem dX1_take_38 : decode cX1_take 38 = .ok (.getfield 9, 3) := by decide +kernel
theorem dX1_take_41 : decode cX1_take 41 = .ok (.iconst 1, 1) := by decide +kernel
theorem dX1_take_42 : decode cX1_take 42 = .ok (.isub, 1) := by decide +kernel
theorem dX1_take_43 : decode cX1_take 43 = .ok (.putfield 9, 3) := by decide +kernel
theorem dX1_take_46 : decode cX1_take 46 = .ok (.return_, 1) := by decide +kernel
theorem dX1_lowestOf_0 : decode cX1_lowestOf 0 = .ok (.iconst 0, 1) := by decide +kernel
theorem dX1_lowestOf_1 : decode cX1_lowestOf 1 = .ok (.istore_n 3, 1) := by decide +kernel
theorem dX1_lowestOf_2 : decode cX1_lowestOf 2 = .ok (.iload_n 3, 1) := by decide +kernel
theorem dX1_lowestOf_3 : decode cX1_lowestOf 3 = .ok (.iconst 3, 1) := by decide +kernel
theorem dX1_lowestOf_4 : decode cX1_lowestOf 4 = .ok (.if_icmp .ge 29, 3) := by decide +kernel
theorem dX1_lowestOf_7 : decode cX1_lowestOf 7 = .ok (.iload_n 2, 1) := by decide +kernel
theorem dX1_lowestOf_8 : decode cX1_lowestOf 8 = .ok (.iload_n 3, 1) := by decide +kernel
theorem dX1_lowestOf_9 : decode cX1_lowestOf 9 = .ok (.ishr, 1) := by decide +kernel
theorem dX1_lowestOf_10 : decode cX1_lowestOf 10 = .ok (.iconst 1, 1) := by decide +kernel
theorem dX1_lowestOf_11 : decode cX1_lowestOf 11 = .ok (.iand, 1) := by decide +kernel
theorem dX1_lowestOf_12 : decode cX1_lowestOf 12 = .ok (.iconst 1, 1) := by decide +kernel
theorem dX1_lowestOf_13 : decode cX1_lowestOf 13 = .ok (.if_icmp .ne 14, 3) := by decide +kernel
theorem dX1_lowestOf_16 : decode cX1_lowestOf 16 = .ok (.aload_n 0, 1) := by decide +kernel
theorem dX1_lowestOf_17 : decode cX1_lowestOf 17 = .ok (.getfield 24, 3) := by decide +kernel
theorem dX1_lowestOf_20 : decode cX1_lowestOf 20 = .ok (.iload_n 1, 1) := by decide +kernel
theorem dX1_lowestOf_21 : decode cX1_lowestOf 21 = .ok (.iconst 3, 1) := by decide +kernel
theorem dX1_lowestOf_22 : decode cX1_lowestOf 22 = .ok (.imul, 1) := by decide +kernel
theorem dX1_lowestOf_23 : decode cX1_lowestOf 23 = .ok (.iload_n 3, 1) := by decide +kernel
theorem dX1_lowestOf_24 : decode cX1_lowestOf 24 = .ok (.iadd, 1) := by decide +kernel
theorem dX1_lowestOf_25 : decode cX1_lowestOf 25 = .ok (.iaload, 1) := by decide +kernel
theorem dX1_lowestOf_26 : decode cX1_lowestOf 26 = .ok (.ireturn, 1) := by decide +kernel
theorem dX1_lowestOf_27 : decode cX1_lowestOf 27 = .ok (.iinc 3 1, 3) := by decide +kernel
theorem dX1_lowestOf_30 : decode cX1_lowestOf 30 = .ok (.goto (-28), 3) := by decide +kernel
theorem dX1_lowestOf_33 : decode cX1_lowestOf 33 = .ok (.iconst (-1), 1) := by decide +kernel
theorem dX1_lowestOf_34 : decode cX1_lowestOf 34 = .ok (.ireturn, 1) := by decide +kernel
theorem dX1_highestOf_0 : decode cX1_highestOf 0 = .ok (.iconst 2, 1) := by decide +kernel
theorem dX1_highestOf_1 : decode cX1_highestOf 1 = .ok (.istore_n 3, 1) := by decide +kernel
theorem dX1_highestOf_2 : decode cX1_highestOf 2 = .ok (.iload_n 3, 1) := by decide +kernel
theorem dX1_highestOf_3 : decode cX1_highestOf 3 = .ok (.ifCond .lt 29, 3) := by decide +kernel
theorem dX1_highestOf_6 : decode cX1_highestOf 6 = .ok (.iload_n 2, 1) := by decide +kernel
theorem dX1_highestOf_7 : decode cX1_highestOf 7 = .ok (.iload_n 3, 1) := by decide +kernel
theorem dX1_highestOf_8 : decode cX1_highestOf 8 = .ok (.ishr, 1) := by decide +kernel
theorem dX1_highestOf_9 : decode cX1_highestOf 9 = .ok (.iconst 1, 1) := by decide +kernel
theorem dX1_highestOf_10 : decode cX1_highestOf 10 = .ok (.iand, 1) := by decide +kernel
theorem dX1_highestOf_11 : decode cX1_highestOf 11 = .ok (.iconst 1, 1) := by decide +kernel
theorem dX1_highestOf_12 : decode cX1_highestOf 12 = .ok (.if_icmp .ne 14, 3) := by decide +kernel
theorem dX1_highestOf_15 : decode cX1_highestOf 15 = .ok (.aload_n 0, 1) := by decide +kernel
theorem dX1_highestOf_16 : decode cX1_highestOf 16 = .ok (.getfield 24, 3) := by decide +kernel
theorem dX1_highestOf_19 : decode cX1_highestOf 19 = .ok (.iload_n 1, 1) := by decide +kernel
theorem dX1_highestOf_20 : decode cX1_highestOf 20 = .ok (.iconst 3, 1) := by decide +kernel
theorem dX1_highestOf_21 : decode cX1_highestOf 21 = .ok (.imul, 1) := by decide +kernel
theorem dX1_highestOf_22 : decode cX1_highestOf 22 = .ok (.iload_n 3, 1) := by decide +kernel
theorem dX1_highestOf_23 : decode cX1_highestOf 23 = .ok (.iadd, 1) := by decide +kernel
theorem dX1_highestOf_24 : decode cX1_highestOf 24 = .ok (.iaload, 1) := by decide +kernel
theorem dX1_highestOf_25 : decode cX1_highestOf 25 = .ok (.ireturn, 1) := by decide +kernel
theorem dX1_highestOf_26 : decode cX1_highestOf 26 = .ok (.iinc 3 (-1), 3) := by decide +kernel
theorem dX1_highestOf_29 : decode cX1_highestOf 29 = .ok (.goto (-27), 3) := by decide +kernel
theorem dX1_highestOf_32 : decode cX1_highestOf 32 = .ok (.iconst (-1), 1) := by decide +kernel
theorem dX1_highestOf_33 : decode cX1_highestOf 33 = .ok (.ireturn, 1) := by decide +kernel
theorem dX1_become_0 : decode cX1_become 0 = .ok (.aload_n 0, 1) := by decide +kernel
theorem dX1_become_1 : decode cX1_become 1 = .ok (.aload_n 1, 1) := by decide +kernel
theorem dX1_become_2 : decode cX1_become 2 = .ok (.getfield 9, 3) := by decide +kernel
theorem dX1_become_5 : decode cX1_become 5 = .ok (.putfield 9, 3) := by decide +kernel
theorem dX1_become_8 : decode cX1_become 8 = .ok (.aload_n 0, 1) := by decide +kernel
theorem dX1_become_9 : decode cX1_become 9 = .ok (.aload_n 1, 1) := by decide +kernel
theorem dX1_become_10 : decode cX1_become 10 = .ok (.getfield 15, 3) := by decide +kernel
theorem dX1_become_13 : decode cX1_become 13 = .ok (.putfield 15, 3) := by decide +kernel
theorem dX1_become_16 : decode cX1_become 16 = .ok (.aload_n 0, 1) := by decide +kernel
theorem dX1_become_17 : decode cX1_become 17 = .ok (.aload_n 1, 1) := by decide +kernel
theorem dX1_become_18 : decode cX1_become 18 = .ok (.getfield 18, 3) := by decide +kernel
theorem dX1_become_21 : decode cX1_become 21 = .ok (.putfield 18, 3) := by decide +kernel
theorem dX1_become_24 : decode cX1_become 24 = .ok (.aload_n 0, 1) := by decide +kernel
theorem dX1_become_25 : decode cX1_become 25 = .ok (.aload_n 1, 1) := by decide +kernel
theorem dX1_become_26 : decode cX1_become 26 = .ok (.getfield 21, 3) := by decide +kernel
theorem dX1_become_29 : decode cX1_become 29 = .ok (.putfield 21, 3) := by decide +kernel
theorem dX1_become_32 : decode cX1_become 32 = .ok (.iconst 0, 1) := by decide +kernel
theorem dX1_become_33 : decode cX1_become 33 = .ok (.istore_n 2, 1) := by decide +kernel
theorem dX1_become_34 : decode cX1_become 34 = .ok (.iload_n 2, 1) := by decide +kernel
theorem dX1_become_35 : decode cX1_become 35 = .ok (.aload_n 0, 1) := by decide +kernel
theorem dX1_become_36 : decode cX1_become 36 = .ok (.getfield 9, 3) := by decide +kernel
theorem dX1_become_39 : decode cX1_become 39 = .ok (.iconst 3, 1) := by decide +kernel
theorem dX1_become_40 : decode cX1_become 40 = .ok (.imul, 1) := by decide +kernel
theorem dX1_become_41 : decode cX1_become 41 = .ok (.if_icmp .ge 21, 3) := by decide +kernel
theorem dX1_become_44 : decode cX1_become 44 = .ok (.aload_n 0, 1) := by decide +kernel
theorem dX1_become_45 : decode cX1_become 45 = .ok (.getfield 24, 3) := by decide +kernel
theorem dX1_become_48 : decode cX1_become 48 = .ok (.iload_n 2, 1) := by decide +kernel
theorem dX1_become_49 : decode cX1_become 49 = .ok (.aload_n 1, 1) := by decide +kernel
theorem dX1_become_50 : decode cX1_become 50 = .ok (.getfield 24, 3) := by decide +kernel
theorem dX1_become_53 : decode cX1_become 53 = .ok (.iload_n 2, 1) := by decide +kernel
theorem dX1_become_54 : decode cX1_become 54 = .ok (.iaload, 1) := by decide +kernel
theorem dX1_become_55 : decode cX1_become 55 = .ok (.iastore, 1) := by decide +kernel
theorem dX1_become_56 : decode cX1_become 56 = .ok (.iinc 2 1, 3) := by decide +kernel
theorem dX1_become_59 : decode cX1_become 59 = .ok (.goto (-25), 3) := by decide +kernel
theorem dX1_become_62 : decode cX1_become 62 = .ok (.return_, 1) := by decide +kernel
theorem dX2_init_0 : decode cX2_init 0 = .ok (.aload_n 0, 1) := by decide +kernel
theorem dX2_init_1 : decode cX2_init 1 = .ok (.invokespecial 3, 3) := by decide +kernel
theorem dX2_init_4 : decode cX2_init 4 = .ok (.aload_n 0, 1) := by decide +kernel
theorem dX2_init_5 : decode cX2_init 5 = .ok (.new 9, 3) := by decide +kernel
theorem dX2_init_8 : decode cX2_init 8 = .ok (.dup, 1) := by decide +kernel
theorem dX2_init_9 : decode cX2_init 9 = .ok (.invokespecial 11, 3) := by decide +kernel
theorem dX2_init_12 : decode cX2_init 12 = .ok (.putfield 12, 3) := by decide +kernel
theorem dX2_init_15 : decode cX2_init 15 = .ok (.aload_n 0, 1) := by decide +kernel
theorem dX2_init_16 : decode cX2_init 16 = .ok (.new 18, 3) := by decide +kernel
theorem dX2_init_19 : decode cX2_init 19 = .ok (.dup, 1) := by decide +kernel
theorem dX2_init_20 : decode cX2_init 20 = .ok (.invokespecial 20, 3) := by decide +kernel
theorem dX2_init_23 : decode cX2_init 23 = .ok (.putfield 21, 3) := by decide +kernel
theorem dX2_init_26 : decode cX2_init 26 = .ok (.aload_n 0, 1) := by decide +kernel
theorem dX2_init_27 : decode cX2_init 27 = .ok (.iconst 0, 1) := by decide +kernel
theorem dX2_init_28 : decode cX2_init 28 = .ok (.putfield 25, 3) := by decide +kernel
theorem dX2_init_31 : decode cX2_init 31 = .ok (.aload_n 0, 1) := by decide +kernel
theorem dX2_init_32 : decode cX2_init 32 = .ok (.sipush 150, 3) := by decide +kernel
theorem dX2_init_35 : decode cX2_init 35 = .ok (.newarray .int, 2) := by decide +kernel
theorem dX2_init_37 : decode cX2_init 37 = .ok (.putfield 29, 3) := by decide +kernel
theorem dX2_init_40 : decode cX2_init 40 = .ok (.aload_n 0, 1) := by decide +kernel
theorem dX2_init_41 : decode cX2_init 41 = .ok (.iconst 3, 1) := by decide +kernel
theorem dX2_init_42 : decode cX2_init 42 = .ok (.newarray .int, 2) := by decide +kernel
theorem dX2_init_44 : decode cX2_init 44 = .ok (.putfield 33, 3) := by decide +kernel
theorem dX2_init_47 : decode cX2_init 47 = .ok (.aload_n 0, 1) := by decide +kernel
theorem dX2_init_48 : decode cX2_init 48 = .ok (.iconst 0, 1) := by decide +kernel
theorem dX2_init_49 : decode cX2_init 49 = .ok (.putfield 36, 3) := by decide +kernel
theorem dX2_init_52 : decode cX2_init 52 = .ok (.aload_n 0, 1) := by decide +kernel
theorem dX2_init_53 : decode cX2_init 53 = .ok (.iconst 0, 1) := by decide +kernel
theorem dX2_init_54 : decode cX2_init 54 = .ok (.putfield 39, 3) := by decide +kernel
theorem dX2_init_57 : decode cX2_init 57 = .ok (.aload_n 0, 1) := by decide +kernel
theorem dX2_init_58 : decode cX2_init 58 = .ok (.iconst (-1), 1) := by decide +kernel
theorem dX2_init_59 : decode cX2_init 59 = .ok (.putfield 42, 3) := by decide +kernel
theorem dX2_init_62 : decode cX2_init 62 = .ok (.aload_n 0, 1) := by decide +kernel
theorem dX2_init_63 : decode cX2_init 63 = .ok (.iconst 0, 1) := by decide +kernel
theorem dX2_init_64 : decode cX2_init 64 = .ok (.putfield 45, 3) := by decide +kernel
theorem dX2_init_67 : decode cX2_init 67 = .ok (.aload_n 0, 1) := by decide +kernel
theorem dX2_init_68 : decode cX2_init 68 = .ok (.iconst 0, 1) := by decide +kernel
theorem dX2_init_69 : decode cX2_init 69 = .ok (.putfield 48, 3) := by decide +kernel
theorem dX2_init_72 : decode cX2_init 72 = .ok (.return_, 1) := by decide +kernel
theorem dX2_add_0 : decode cX2_add 0 = .ok (.aload_n 0, 1) := by decide +kernel
theorem dX2_add_1 : decode cX2_add 1 = .ok (.getfield 25, 3) := by decide +kernel
theorem dX2_add_4 : decode cX2_add 4 = .ok (.sipush 150, 3) := by decide +kernel
theorem dX2_add_7 : decode cX2_add 7 = .ok (.if_icmp .ge 23, 3) := by decide +kernel
theorem dX2_add_10 : decode cX2_add 10 = .ok (.aload_n 0, 1) := by decide +kernel
theorem dX2_add_11 : decode cX2_add 11 = .ok (.getfield 29, 3) := by decide +kernel
theorem dX2_add_14 : decode cX2_add 14 = .ok (.aload_n 0, 1) := by decide +kernel
theorem dX2_add_15 : decode cX2_add 15 = .ok (.getfield 25, 3) := by decide +kernel
theorem dX2_add_18 : decode cX2_add 18 = .ok (.iload_n 1, 1) := by decide +kernel
theorem dX2_add_19 : decode cX2_add 19 = .ok (.iastore, 1) := by decide +kernel
theorem dX2_add_20 : decode cX2_add 20 = .ok (.aload_n 0, 1) := by decide +kernel
theorem dX2_add_21 : decode cX2_add 21 = .ok (.dup, 1) := by decide +kernel
theorem dX2_add_22 : decode cX2_add 22 = .ok (.getfield 25, 3) := by decide +kernel
theorem dX2_add_25 : decode cX2_add 25 = .ok (.iconst 1, 1) := by decide +kernel
theorem dX2_add_26 : decode cX2_add 26 = .ok (.iadd, 1) := by decide +kernel
theorem dX2_add_27 : decode cX2_add 27 = .ok (.putfield 25, 3) := by decide +kernel
theorem dX2_add_30 : decode cX2_add 30 = .ok (.return_, 1) := by decide +kernel
theorem dX2_read_0 : decode cX2_read 0 = .ok (.aload_n 0, 1) := by decide +kernel
theorem dX2_read_1 : decode cX2_read 1 = .ok (.iconst 0, 1) := by decide +kernel
theorem dX2_read_2 : decode cX2_read 2 = .ok (.putfield 36, 3) := by decide +kernel
theorem dX2_read_5 : decode cX2_read 5 = .ok (.aload_n 0, 1) := by decide +kernel
theorem dX2_read_6 : decode cX2_read 6 = .ok (.iconst 0, 1) := by decide +kernel
theorem dX2_read_7 : decode cX2_read 7 = .ok (.putfield 48, 3) := by decide +kernel
theorem dX2_read_10 : decode cX2_read 10 = .ok (.aload_n 0, 1) := by decide +kernel
theorem dX2_read_11 : decode cX2_read 11 = .ok (.getfield 12, 3) := by decide +kernel
theorem dX2_read_14 : decode cX2_read 14 = .ok (.invokevirtual 52, 3) := by decide +kernel
theorem dX2_read_17 : decode cX2_read 17 = .ok (.aload_n 0, 1) := by decide +kernel
theorem dX2_read_18 : decode cX2_read 18 = .ok (.getfield 21, 3) := by decide +kernel
theorem dX2_read_21 : decode cX2_read 21 = .ok (.invokevirtual 55, 3) := by decide +kernel
theorem dX2_read_24 : decode cX2_read 24 = .ok (.iconst 0, 1) := by decide +kernel
theorem dX2_read_25 : decode cX2_read 25 = .ok (.istore_n 1, 1) := by decide +kernel
theorem dX2_read_26 : decode cX2_read 26 = .ok (.aload_n 0, 1) := by decide +kernel
theorem dX2_read_27 : decode cX2_read 27 = .ok (.invokevirtual 56, 3) := by decide +kernel
theorem dX2_read_30 : decode cX2_read 30 = .ok (.aload_n 0, 1) := by decide +kernel
theorem dX2_read_31 : decode cX2_read 31 = .ok (.getfield 42, 3) := by decide +kernel
theorem dX2_read_34 : decode cX2_read 34 = .ok (.iconst (-1), 1) := by decide +kernel
theorem dX2_read_35 : decode cX2_read 35 = .ok (.if_icmp .eq 35, 3) := by decide +kernel
theorem dX2_read_38 : decode cX2_read 38 = .ok (.iload_n 1, 1) := by decide +kernel
theorem dX2_read_39 : decode cX2_read 39 = .ok (.sipush 150, 3) := by decide +kernel
theorem dX2_read_42 : decode cX2_read 42 = .ok (.if_icmp .ge 28, 3) := by decide +kernel
theorem dX2_read_45 : decode cX2_read 45 = .ok (.aload_n 0, 1) := by decide +kernel
theorem dX2_read_46 : decode cX2_read 46 = .ok (.invokevirtual 59, 3) := by decide +kernel
theorem dX2_read_49 : decode cX2_read 49 = .ok (.ifCond .ne 11, 3) := by decide +kernel
theorem dX2_read_52 : decode cX2_read 52 = .ok (.bipush (-10), 2) := by decide +kernel
theorem dX2_read_54 : decode cX2_read 54 = .ok (.aload_n 0, 1) := by decide +kernel
theorem dX2_read_55 : decode cX2_read 55 = .ok (.getfield 39, 3) := by decide +kernel
theorem dX2_read_58 : decode cX2_read 58 = .ok (.isub, 1) := by decide +kernel
theorem dX2_read_59 : decode cX2_read 59 = .ok (.ireturn, 1) := by decide +kernel
theorem dX2_read_60 : decode cX2_read 60 = .ok (.iinc 1 1, 3) := by decide +kernel
theorem dX2_read_63 : decode cX2_read 63 = .ok (.aload_n 0, 1) := by decide +kernel
theorem dX2_read_64 : decode cX2_read 64 = .ok (.invokevirtual 56, 3) := by decide +kernel
theorem dX2_read_67 : decode cX2_read 67 = .ok (.goto (-37), 3) := by decide +kernel
theorem dX2_read_70 : decode cX2_read 70 = .ok (.aload_n 0, 1) := by decide +kernel
theorem dX2_read_71 : decode cX2_read 71 = .ok (.getfield 21, 3) := by decide +kernel
theorem dX2_read_74 : decode cX2_read 74 = .ok (.iconst 1, 1) := by decide +kernel
theorem dX2_read_75 : decode cX2_read 75 = .ok (.aload_n 0, 1) := by decide +kernel
theorem dX2_read_76 : decode cX2_read 76 = .ok (.getfield 12, 3) := by decide +kernel
theorem dX2_read_79 : decode cX2_read 79 = .ok (.getfield 63, 3) := by decide +kernel
theorem dX2_read_82 : decode cX2_read 82 = .ok (.ishl, 1) := by decide +kernel
theorem dX2_read_83 : decode cX2_read 83 = .ok (.iconst 1, 1) := by decide +kernel
theorem dX2_read_84 : decode cX2_read 84 = .ok (.isub, 1) := by decide +kernel
theorem dX2_read_85 : decode cX2_read 85 = .ok (.putfield 66, 3) := by decide +kernel
theorem dX2_read_88 : decode cX2_read 88 = .ok (.iload_n 1, 1) := by decide +kernel
theorem dX2_read_89 : decode cX2_read 89 = .ok (.ireturn, 1) := by decide +kernel
theorem dX2_readItem_0 : decode cX2_readItem 0 = .ok (.aload_n 0, 1) := by decide +kernel
theorem dX2_readItem_1 : decode cX2_readItem 1 = .ok (.getfield 42, 3) := by decide +kernel
theorem dX2_readItem_4 : decode cX2_readItem 4 = .ok (.lookupswitch 80 #[(98, 58), (103, 64), (110, 70), (113, 75), (114, 52)], 52) := by decide +kernel
theorem dX2_readItem_56 : decode cX2_readItem 56 = .ok (.aload_n 0, 1) := by decide +kernel
theorem dX2_readItem_57 : decode cX2_readItem 57 = .ok (.iconst 0, 1) := by decide +kernel
theorem dX2_readItem_58 : decode cX2_readItem 58 = .ok (.invokevirtual 69, 3) := by decide +kernel
theorem dX2_readItem_61 : decode cX2_readItem 61 = .ok (.ireturn, 1) := by decide +kernel
theorem dX2_readItem_62 : decode cX2_readItem 62 = .ok (.aload_n 0, 1) := by decide +kernel
theorem dX2_readItem_63 : decode cX2_readItem 63 = .ok (.iconst 1, 1) := by decide +kernel
theorem dX2_readItem_64 : decode cX2_readItem 64 = .ok (.invokevirtual 69, 3) := by decide +kernel
theorem dX2_readItem_67 : decode cX2_readItem 67 = .ok (.ireturn, 1) := by decide +kernel
theorem dX2_readItem_68 : decode cX2_readItem 68 = .ok (.aload_n 0, 1) := by decide +kernel
theorem dX2_readItem_69 : decode cX2_readItem 69 = .ok (.iconst 2, 1) := by decide +kernel
theorem dX2_readItem_70 : decode cX2_readItem 70 = .ok (.invokevirtual 69, 3) := by decide +kernel
theorem dX2_readItem_73 : decode cX2_readItem 73 = .ok (.ireturn, 1) := by decide +kernel
theorem dX2_readItem_74 : decode cX2_readItem 74 = .ok (.aload_n 0, 1) := by decide +kernel
theorem dX2_readItem_75 : decode cX2_readItem 75 = .ok (.invokevirtual 73, 3) := by decide +kernel
theorem dX2_readItem_78 : decode cX2_readItem 78 = .ok (.ireturn, 1) := by decide +kernel
theorem dX2_readItem_79 : decode cX2_readItem 79 = .ok (.aload_n 0, 1) := by decide +kernel
theorem dX2_readItem_80 : decode cX2_readItem 80 = .ok (.invokevirtual 76, 3) := by decide +kernel
theorem dX2_readItem_83 : decode cX2_readItem 83 = .ok (.ireturn, 1) := by decide +kernel
theorem dX2_readItem_84 : decode cX2_readItem 84 = .ok (.iconst 0, 1) := by decide +kernel
theorem dX2_readItem_85 : decode cX2_readItem 85 = .ok (.ireturn, 1) := by decide +kernel
theorem dX2_readPlayer_0 : decode cX2_readPlayer 0 = .ok (.aload_n 0, 1) := by decide +kernel
theorem dX2_readPlayer_1 : decode cX2_readPlayer 1 = .ok (.getfield 12, 3) := by decide +kernel
theorem dX2_readPlayer_4 : decode cX2_readPlayer 4 = .ok (.iload_n 1, 1) := by decide +kernel
theorem dX2_readPlayer_5 : decode cX2_readPlayer 5 = .ok (.invokevirtual 79, 3) := by decide +kernel
theorem dX2_readPlayer_8 : decode cX2_readPlayer 8 = .ok (.ifCond .eq 13, 3) := by decide +kernel
theorem dX2_readPlayer_11 : decode cX2_readPlayer 11 = .ok (.aload_n 0, 1) := by decide +kernel
theorem dX2_readPlayer_12 : decode cX2_readPlayer 12 = .ok (.iconst 0, 1) := by decide +kernel
theorem dX2_readPlayer_13 : decode cX2_readPlayer 13 = .ok (.bipush 60, 2) := by decide +kernel
theorem dX2_readPlayer_15 : decode cX2_readPlayer 15 = .ok (.invokevirtual 82, 3) := by decide +kernel
theorem dX2_readPlayer_18 : decode cX2_readPlayer 18 = .ok (.ifCond .ne 5, 3) := by decide +kernel
theorem dX2_readPlayer_21 : decode cX2_readPlayer 21 = .ok (.iconst 0, 1) := by decide +kernel
theorem dX2_readPlayer_22 : decode cX2_readPlayer 22 = .ok (.ireturn, 1) := by decide +kernel
theorem dX2_readPlayer_23 : decode cX2_readPlayer 23 = .ok (.aload_n 0, 1) := by decide +kernel
theorem dX2_readPlayer_24 : decode cX2_readPlayer 24 = .ok (.getfield 45, 3) := by decide +kernel
theorem dX2_readPlayer_27 : decode cX2_readPlayer 27 = .ok (.istore_n 2, 1) := by decide +kernel
theorem dX2_readPlayer_28 : decode cX2_readPlayer 28 = .ok (.aload_n 0, 1) := by decide +kernel
theorem dX2_readPlayer_29 : decode cX2_readPlayer 29 = .ok (.iload_n 2, 1) := by decide +kernel
theorem dX2_readPlayer_30 : decode cX2_readPlayer 30 = .ok (.bipush 60, 2) := by decide +kernel
theorem dX2_readPlayer_32 : decode cX2_readPlayer 32 = .ok (.invokevirtual 82, 3) := by decide +kernel
theorem dX2_readPlayer_35 : decode cX2_readPlayer 35 = .ok (.ifCond .ne 5, 3) := by decide +kernel
theorem dX2_readPlayer_38 : decode cX2_readPlayer 38 = .ok (.iconst 0, 1) := by decide +kernel
theorem dX2_readPlayer_39 : decode cX2_readPlayer 39 = .ok (.ireturn, 1) := by decide +kernel
theorem dX2_readPlayer_40 : decode cX2_readPlayer 40 = .ok (.aload_n 0, 1) := by decide +kernel
theorem dX2_readPlayer_41 : decode cX2_readPlayer 41 = .ok (.getfield 45, 3) := by decide +kernel
theorem dX2_readPlayer_44 : decode cX2_readPlayer 44 = .ok (.istore_n 3, 1) := by decide +kernel
theorem dX2_readPlayer_45 : decode cX2_readPlayer 45 = .ok (.aload_n 0, 1) := by decide +kernel
theorem dX2_readPlayer_46 : decode cX2_readPlayer 46 = .ok (.iconst 2, 1) := by decide +kernel
theorem dX2_readPlayer_47 : decode cX2_readPlayer 47 = .ok (.bipush 9, 2) := by decide +kernel
theorem dX2_readPlayer_49 : decode cX2_readPlayer 49 = .ok (.invokevirtual 82, 3) := by decide +kernel
theorem dX2_readPlayer_52 : decode cX2_readPlayer 52 = .ok (.ifCond .ne 5, 3) := by decide +kernel
theorem dX2_readPlayer_55 : decode cX2_readPlayer 55 = .ok (.iconst 0, 1) := by decide +kernel
theorem dX2_readPlayer_56 : decode cX2_readPlayer 56 = .ok (.ireturn, 1) := by decide +kernel
theorem dX2_readPlayer_57 : decode cX2_readPlayer 57 = .ok (.aload_n 0, 1) := by decide +kernel
theorem dX2_readPlayer_58 : decode cX2_readPlayer 58 = .ok (.getfield 45, 3) := by decide +kernel
theorem dX2_readPlayer_61 : decode cX2_readPlayer 61 = .ok (.istore 4, 2) := by decide +kernel
theorem dX2_readPlayer_63 : decode cX2_readPlayer 63 = .ok (.iconst 0, 1) := by decide +kernel
theorem dX2_readPlayer_64 : decode cX2_readPlayer 64 = .ok (.istore 5, 2) := by decide +kernel
theorem dX2_readPlayer_66 : decode cX2_readPlayer 66 = .ok (.iload_n 1, 1) := by decide +kernel
theorem dX2_readPlayer_67 : decode cX2_readPlayer 67 = .ok (.iconst 1, 1) := by decide +kernel
theorem dX2_readPlayer_68 : decode cX2_readPlayer 68 = .ok (.if_icmp .ne 21, 3) := by decide +kernel
theorem dX2_readPlayer_71 : decode cX2_readPlayer 71 = .ok (.aload_n 0, 1) := by decide +kernel
theorem dX2_readPlayer_72 : decode cX2_readPlayer 72 = .ok (.iconst 0, 1) := by decide +kernel
theorem dX2_readPlayer_73 : decode cX2_readPlayer 73 = .ok (.bipush 12, 2) := by decide +kernel
theorem dX2_readPlayer_75 : decode cX2_readPlayer 75 = .ok (.invokevirtual 82, 3) := by decide +kernel
theorem dX2_readPlayer_78 : decode cX2_readPlayer 78 = .ok (.ifCond .ne 5, 3) := by decide +kernel
theorem dX2_readPlayer_81 : decode cX2_readPlayer 81 = .ok (.iconst 0, 1) := by decide +kernel
theorem dX2_readPlayer_82 : decode cX2_readPlayer 82 = .ok (.ireturn, 1) := by decide +kernel
theorem dX2_readPlayer_83 : decode cX2_readPlayer 83 = .ok (.aload_n 0, 1) := by decide +kernel
theorem dX2_readPlayer_84 : decode cX2_readPlayer 84 = .ok (.getfield 45, 3) := by decide +kernel
theorem dX2_readPlayer_87 : decode cX2_readPlayer 87 = .ok (.istore 5, 2) := by decide +kernel
theorem dX2_readPlayer_89 : decode cX2_readPlayer 89 = .ok (.aload_n 0, 1) := by decide +kernel
theorem dX2_readPlayer_90 : decode cX2_readPlayer 90 = .ok (.getfield 12, 3) := by decide +kernel
theorem dX2_readPlayer_93 : decode cX2_readPlayer 93 = .ok (.iload_n 1, 1) := by decide +kernel
theorem dX2_readPlayer_94 : decode cX2_readPlayer 94 = .ok (.iload_n 2, 1) := by decide +kernel
theorem dX2_readPlayer_95 : decode cX2_readPlayer 95 = .ok (.iload_n 3, 1) := by decide +kernel
theorem dX2_readPlayer_96 : decode cX2_readPlayer 96 = .ok (.iload 4, 2) := by decide +kernel
theorem dX2_readPlayer_98 : decode cX2_readPlayer 98 = .ok (.iload 5, 2) := by decide +kernel
theorem dX2_readPlayer_100 : decode cX2_readPlayer 100 = .ok (.invokevirtual 86, 3) := by decide +kernel
theorem dX2_readPlayer_103 : decode cX2_readPlayer 103 = .ok (.aload_n 0, 1) := by decide +kernel
theorem dX2_readPlayer_104 : decode cX2_readPlayer 104 = .ok (.invokevirtual 90, 3) := by decide +kernel
theorem dX2_readPlayer_107 : decode cX2_readPlayer 107 = .ok (.ireturn, 1) := by decide +kernel
theorem dX2_readChord_0 : decode cX2_readChord 0 = .ok (.aload_n 0, 1) := by decide +kernel
theorem dX2_readChord_1 : decode cX2_readChord 1 = .ok (.getfield 21, 3) := by decide +kernel
theorem dX2_readChord_4 : decode cX2_readChord 4 = .ok (.getfield 93, 3) := by decide +kernel
theorem dX2_readChord_7 : decode cX2_readChord 7 = .ok (.bipush 8, 2) := by decide +kernel
theorem dX2_readChord_9 : decode cX2_readChord 9 = .ok (.if_icmp .ge 13, 3) := by decide +kernel
theorem dX2_readChord_12 : decode cX2_readChord 12 = .ok (.aload_n 0, 1) := by decide +kernel
theorem dX2_readChord_13 : decode cX2_readChord 13 = .ok (.iconst 0, 1) := by decide +kernel
theorem dX2_readChord_14 : decode cX2_readChord 14 = .ok (.bipush 60, 2) := by decide +kernel
theorem dX2_readChord_16 : decode cX2_readChord 16 = .ok (.invokevirtual 82, 3) := by decide +kernel
theorem dX2_readChord_19 : decode cX2_readChord 19 = .ok (.ifCond .ne 5, 3) := by decide +kernel
theorem dX2_readChord_22 : decode cX2_readChord 22 = .ok (.iconst 0, 1) := by decide +kernel
theorem dX2_readChord_23 : decode cX2_readChord 23 = .ok (.ireturn, 1) := by decide +kernel
theorem dX2_readChord_24 : decode cX2_readChord 24 = .ok (.aload_n 0, 1) := by decide +kernel
theorem dX2_readChord_25 : decode cX2_readChord 25 = .ok (.getfield 33, 3) := by decide +kernel
theorem dX2_readChord_28 : decode cX2_readChord 28 = .ok (.iconst 0, 1) := by decide +kernel
theorem dX2_readChord_29 : decode cX2_readChord 29 = .ok (.aload_n 0, 1) := by decide +kernel
theorem dX2_readChord_30 : decode cX2_readChord 30 = .ok (.getfield 45, 3) := by decide +kernel
theorem dX2_readChord_33 : decode cX2_readChord 33 = .ok (.iastore, 1) := by decide +kernel
theorem dX2_readChord_34 : decode cX2_readChord 34 = .ok (.aload_n 0, 1) := by decide +kernel
theorem dX2_readChord_35 : decode cX2_readChord 35 = .ok (.getfield 33, 3) := by decide +kernel
theorem dX2_readChord_38 : decode cX2_readChord 38 = .ok (.iconst 1, 1) := by decide +kernel
theorem dX2_readChord_39 : decode cX2_readChord 39 = .ok (.iconst (-1), 1) := by decide +kernel
theorem dX2_readChord_40 : decode cX2_readChord 40 = .ok (.iastore, 1) := by decide +kernel
theorem dX2_readChord_41 : decode cX2_readChord 41 = .ok (.aload_n 0, 1) := by decide +kernel
theorem dX2_readChord_42 : decode cX2_readChord 42 = .ok (.getfield 33, 3) := by decide +kernel
theorem dX2_readChord_45 : decode cX2_readChord 45 = .ok (.iconst 2, 1) := by decide +kernel
theorem dX2_readChord_46 : decode cX2_readChord 46 = .ok (.iconst (-1), 1) := by decide +kernel
theorem dX2_readChord_47 : decode cX2_readChord 47 = .ok (.iastore, 1) := by decide +kernel
theorem dX2_readChord_48 : decode cX2_readChord 48 = .ok (.iconst 1, 1) := by decide +kernel
theorem dX2_readChord_49 : decode cX2_readChord 49 = .ok (.istore_n 1, 1) := by decide +kernel
theorem dX2_readChord_50 : decode cX2_readChord 50 = .ok (.iload_n 1, 1) := by decide +kernel
theorem dX2_readChord_51 : decode cX2_readChord 51 = .ok (.iconst 3, 1) := by decide +kernel
theorem dX2_readChord_52 : decode cX2_readChord 52 = .ok (.if_icmp .gt 92, 3) := by decide +kernel
theorem dX2_readChord_55 : decode cX2_readChord 55 = .ok (.aload_n 0, 1) := by decide +kernel
theorem dX2_readChord_56 : decode cX2_readChord 56 = .ok (.invokevirtual 56, 3) := by decide +kernel
theorem dX2_readChord_59 : decode cX2_readChord 59 = .ok (.aload_n 0, 1) := by decide +kernel
theorem dX2_readChord_60 : decode cX2_readChord 60 = .ok (.getfield 42, 3) := by decide +kernel
theorem dX2_readChord_63 : decode cX2_readChord 63 = .ok (.bipush 59, 2) := by decide +kernel
theorem dX2_readChord_65 : decode cX2_readChord 65 = .ok (.if_icmp .ne 37, 3) := by decide +kernel
theorem dX2_readChord_68 : decode cX2_readChord 68 = .ok (.aload_n 0, 1) := by decide +kernel
theorem dX2_readChord_69 : decode cX2_readChord 69 = .ok (.getfield 21, 3) := by decide +kernel
theorem dX2_readChord_72 : decode cX2_readChord 72 = .ok (.aload_n 0, 1) := by decide +kernel
theorem dX2_readChord_73 : decode cX2_readChord 73 = .ok (.getfield 21, 3) := by decide +kernel
theorem dX2_readChord_76 : decode cX2_readChord 76 = .ok (.getfield 93, 3) := by decide +kernel
theorem dX2_readChord_79 : decode cX2_readChord 79 = .ok (.aload_n 0, 1) := by decide +kernel
theorem dX2_readChord_80 : decode cX2_readChord 80 = .ok (.getfield 33, 3) := by decide +kernel
theorem dX2_readChord_83 : decode cX2_readChord 83 = .ok (.iconst 0, 1) := by decide +kernel
theorem dX2_readChord_84 : decode cX2_readChord 84 = .ok (.iaload, 1) := by decide +kernel
theorem dX2_readChord_85 : decode cX2_readChord 85 = .ok (.aload_n 0, 1) := by decide +kernel
theorem dX2_readChord_86 : decode cX2_readChord 86 = .ok (.getfield 33, 3) := by decide +kernel
theorem dX2_readChord_89 : decode cX2_readChord 89 = .ok (.iconst 1, 1) := by decide +kernel
theorem dX2_readChord_90 : decode cX2_readChord 90 = .ok (.iaload, 1) := by decide +kernel
theorem dX2_readChord_91 : decode cX2_readChord 91 = .ok (.aload_n 0, 1) := by decide +kernel
theorem dX2_readChord_92 : decode cX2_readChord 92 = .ok (.getfield 33, 3) := by decide +kernel
theorem dX2_readChord_95 : decode cX2_readChord 95 = .ok (.iconst 2, 1) := by decide +kernel
theorem dX2_readChord_96 : decode cX2_readChord 96 = .ok (.iaload, 1) := by decide +kernel
theorem dX2_readChord_97 : decode cX2_readChord 97 = .ok (.invokevirtual 94, 3) := by decide +kernel
theorem dX2_readChord_100 : decode cX2_readChord 100 = .ok (.iconst 1, 1) := by decide +kernel
theorem dX2_readChord_101 : decode cX2_readChord 101 = .ok (.ireturn, 1) := by decide +kernel
theorem dX2_readChord_102 : decode cX2_readChord 102 = .ok (.iload_n 1, 1) := by decide +kernel
theorem dX2_readChord_103 : decode cX2_readChord 103 = .ok (.iconst 3, 1) := by decide +kernel
theorem dX2_readChord_104 : decode cX2_readChord 104 = .ok (.if_icmp .eq 22, 3) := by decide +kernel
theorem dX2_readChord_107 : decode cX2_readChord 107 = .ok (.aload_n 0, 1) := by decide +kernel
theorem dX2_readChord_108 : decode cX2_readChord 108 = .ok (.aload_n 0, 1) := by decide +kernel
theorem dX2_readChord_109 : decode cX2_readChord 109 = .ok (.getfield 33, 3) := by decide +kernel
theorem dX2_readChord_112 : decode cX2_readChord 112 = .ok (.iload_n 1, 1) := by decide +kernel
theorem dX2_readChord_113 : decode cX2_readChord 113 = .ok (.iconst 1, 1) := by decide +kernel
theorem dX2_readChord_114 : decode cX2_readChord 114 = .ok (.isub, 1) := by decide +kernel
theorem dX2_readChord_115 : decode cX2_readChord 115 = .ok (.iaload, 1) := by decide +kernel
theorem dX2_readChord_116 : decode cX2_readChord 116 = .ok (.iconst 1, 1) := by decide +kernel
theorem dX2_readChord_117 : decode cX2_readChord 117 = .ok (.iadd, 1) := by decide +kernel
theorem dX2_readChord_118 : decode cX2_readChord 118 = .ok (.bipush 60, 2) := by decide +kernel
theorem dX2_readChord_120 : decode cX2_readChord 120 = .ok (.invokevirtual 98, 3) := by decide +kernel
theorem dX2_readChord_123 : decode cX2_readChord 123 = .ok (.ifCond .ne 5, 3) := by decide +kernel
theorem dX2_readChord_126 : decode cX2_readChord 126 = .ok (.iconst 0, 1) := by decide +kernel
theorem dX2_readChord_127 : decode cX2_readChord 127 = .ok (.ireturn, 1) := by decide +kernel
theorem dX2_readChord_128 : decode cX2_readChord 128 = .ok (.aload_n 0, 1) := by decide +kernel
theorem dX2_readChord_129 : decode cX2_readChord 129 = .ok (.getfield 33, 3) := by decide +kernel
theorem dX2_readChord_132 : decode cX2_readChord 132 = .ok (.iload_n 1, 1) := by decide +kernel
theorem dX2_readChord_133 : decode cX2_readChord 133 = .ok (.aload_n 0, 1) := by decide +kernel
theorem dX2_readChord_134 : decode cX2_readChord 134 = .ok (.getfield 45, 3) := by decide +kernel
theorem dX2_readChord_137 : decode cX2_readChord 137 = .ok (.iastore, 1) := by decide +kernel
theorem dX2_readChord_138 : decode cX2_readChord 138 = .ok (.iinc 1 1, 3) := by decide +kernel
theorem dX2_readChord_141 : decode cX2_readChord 141 = .ok (.goto (-91), 3) := by decide +kernel
theorem dX2_readChord_144 : decode cX2_readChord 144 = .ok (.iconst 0, 1) := by decide +kernel
theorem dX2_readChord_145 : decode cX2_readChord 145 = .ok (.ireturn, 1) := by decide +kernel
theorem dX2_readRules_0 : decode cX2_readRules 0 = .ok (.aload_n 0, 1) := by decide +kernel
theorem dX2_readRules_1 : decode cX2_readRules 1 = .ok (.getfield 48, 3) := by decide +kernel
theorem dX2_readRules_4 : decode cX2_readRules 4 = .ok (.ifCond .ne 13, 3) := by decide +kernel
theorem dX2_readRules_7 : decode cX2_readRules 7 = .ok (.aload_n 0, 1) := by decide +kernel
theorem dX2_readRules_8 : decode cX2_readRules 8 = .ok (.iconst 0, 1) := by decide +kernel
theorem dX2_readRules_9 : decode cX2_readRules 9 = .ok (.bipush 20, 2) := by decide +kernel
theorem dX2_readRules_11 : decode cX2_readRules 11 = .ok (.invokevirtual 82, 3) := by decide +kernel
theorem dX2_readRules_14 : decode cX2_readRules 14 = .ok (.ifCond .ne 5, 3) := by decide +kernel
theorem dX2_readRules_17 : decode cX2_readRules 17 = .ok (.iconst 0, 1) := by decide +kernel
theorem dX2_readRules_18 : decode cX2_readRules 18 = .ok (.ireturn, 1) := by decide +kernel
theorem dX2_readRules_19 : decode cX2_readRules 19 = .ok (.aload_n 0, 1) := by decide +kernel
theorem dX2_readRules_20 : decode cX2_readRules 20 = .ok (.getfield 21, 3) := by decide +kernel
theorem dX2_readRules_23 : decode cX2_readRules 23 = .ok (.aload_n 0, 1) := by decide +kernel
theorem dX2_readRules_24 : decode cX2_readRules 24 = .ok (.getfield 45, 3) := by decide +kernel
theorem dX2_readRules_27 : decode cX2_readRules 27 = .ok (.putfield 101, 3) := by decide +kernel
theorem dX2_readRules_30 : decode cX2_readRules 30 = .ok (.aload_n 0, 1) := by decide +kernel
theorem dX2_readRules_31 : decode cX2_readRules 31 = .ok (.iconst 0, 1) := by decide +kernel
theorem dX2_readRules_32 : decode cX2_readRules 32 = .ok (.bipush 30, 2) := by decide +kernel
theorem dX2_readRules_34 : decode cX2_readRules 34 = .ok (.invokevirtual 82, 3) := by decide +kernel
theorem dX2_readRules_37 : decode cX2_readRules 37 = .ok (.ifCond .ne 5, 3) := by decide +kernel
theorem dX2_readRules_40 : decode cX2_readRules 40 = .ok (.iconst 0, 1) := by decide +kernel
theorem dX2_readRules_41 : decode cX2_readRules 41 = .ok (.ireturn, 1) := by decide +kernel
theorem dX2_readRules_42 : decode cX2_readRules 42 = .ok (.aload_n 0, 1) := by decide +kernel
theorem dX2_readRules_43 : decode cX2_readRules 43 = .ok (.getfield 21, 3) := by decide +kernel
theorem dX2_readRules_46 : decode cX2_readRules 46 = .ok (.aload_n 0, 1) := by decide +kernel
theorem dX2_readRules_47 : decode cX2_readRules 47 = .ok (.getfield 45, 3) := by decide +kernel
theorem dX2_readRules_50 : decode cX2_readRules 50 = .ok (.putfield 104, 3) := by decide +kernel
theorem dX2_readRules_53 : decode cX2_readRules 53 = .ok (.aload_n 0, 1) := by decide +kernel
theorem dX2_readRules_54 : decode cX2_readRules 54 = .ok (.iconst 1, 1) := by decide +kernel
theorem dX2_readRules_55 : decode cX2_readRules 55 = .ok (.putfield 48, 3) := by decide +kernel
theorem dX2_readRules_58 : decode cX2_readRules 58 = .ok (.aload_n 0, 1) := by decide +kernel
theorem dX2_readRules_59 : decode cX2_readRules 59 = .ok (.invokevirtual 90, 3) := by decide +kernel
theorem dX2_readRules_62 : decode cX2_readRules 62 = .ok (.ireturn, 1) := by decide +kernel
theorem dX2_nextIsNumber_0 : decode cX2_nextIsNumber 0 = .ok (.aload_n 0, 1) := by decide +kernel
theorem dX2_nextIsNumber_1 : decode cX2_nextIsNumber 1 = .ok (.invokevirtual 56, 3) := by decide +kernel
theorem dX2_nextIsNumber_4 : decode cX2_nextIsNumber 4 = .ok (.aload_n 0, 1) := by decide +kernel
theorem dX2_nextIsNumber_5 : decode cX2_nextIsNumber 5 = .ok (.iload_n 1, 1) := by decide +kernel
theorem dX2_nextIsNumber_6 : decode cX2_nextIsNumber 6 = .ok (.iload_n 2, 1) := by decide +kernel
theorem dX2_nextIsNumber_7 : decode cX2_nextIsNumber 7 = .ok (.invokevirtual 98, 3) := by decide +kernel
theorem dX2_nextIsNumber_10 : decode cX2_nextIsNumber 10 = .ok (.ireturn, 1) := by decide +kernel
theorem dX2_isNumber_0 : decode cX2_isNumber 0 = .ok (.aload_n 0, 1) := by decide +kernel
theorem dX2_isNumber_1 : decode cX2_isNumber 1 = .ok (.getfield 42, 3) := by decide +kernel
theorem dX2_isNumber_4 : decode cX2_isNumber 4 = .ok (.bipush (-2), 2) := by decide +kernel
theorem dX2_isNumber_6 : decode cX2_isNumber 6 = .ok (.if_icmp .ne 19, 3) := by decide +kernel
theorem dX2_isNumber_9 : decode cX2_isNumber 9 = .ok (.aload_n 0, 1) := by decide +kernel
theorem dX2_isNumber_10 : decode cX2_isNumber 10 = .ok (.getfield 45, 3) := by decide +kernel
theorem dX2_isNumber_13 : decode cX2_isNumber 13 = .ok (.iload_n 1, 1) := by decide +kernel
theorem dX2_isNumber_14 : decode cX2_isNumber 14 = .ok (.iload_n 2, 1) := by decide +kernel
theorem dX2_isNumber_15 : decode cX2_isNumber 15 = .ok (.invokestatic 107, 3) := by decide +kernel
theorem dX2_isNumber_18 : decode cX2_isNumber 18 = .ok (.ifCond .eq 7, 3) := by decide +kernel
theorem dX2_isNumber_21 : decode cX2_isNumber 21 = .ok (.iconst 1, 1) := by decide +kernel
theorem dX2_isNumber_22 : decode cX2_isNumber 22 = .ok (.goto 4, 3) := by decide +kernel
theorem dX2_isNumber_25 : decode cX2_isNumber 25 = .ok (.iconst 0, 1) := by decide +kernel
theorem dX2_isNumber_26 : decode cX2_isNumber 26 = .ok (.ireturn, 1) := by decide +kernel
theorem dX2_nextEndsItem_0 : decode cX2_nextEndsItem 0 = .ok (.aload_n 0, 1) := by decide +kernel
theorem dX2_nextEndsItem_1 : decode cX2_nextEndsItem 1 = .ok (.invokevirtual 56, 3) := by decide +kernel
theorem dX2_nextEndsItem_4 : decode cX2_nextEndsItem 4 = .ok (.aload_n 0, 1) := by decide +kernel
theorem dX2_nextEndsItem_5 : decode cX2_nextEndsItem 5 = .ok (.getfield 42, 3) := by decide +kernel
theorem dX2_nextEndsItem_8 : decode cX2_nextEndsItem 8 = .ok (.bipush 59, 2) := by decide +kernel
theorem dX2_nextEndsItem_10 : decode cX2_nextEndsItem 10 = .ok (.if_icmp .ne 7, 3) := by decide +kernel
theorem dX2_nextEndsItem_13 : decode cX2_nextEndsItem 13 = .ok (.iconst 1, 1) := by decide +kernel
theorem dX2_nextEndsItem_14 : decode cX2_nextEndsItem 14 = .ok (.goto 4, 3) := by decide +kernel
theorem dX2_nextEndsItem_17 : decode cX2_nextEndsItem 17 = .ok (.iconst 0, 1) := by decide +kernel
theorem dX2_nextEndsItem_18 : decode cX2_nextEndsItem 18 = .ok (.ireturn, 1) := by decide +kernel
theorem dX2_next_0 : decode cX2_next 0 = .ok (.aload_n 0, 1) := by decide +kernel
theorem dX2_next_1 : decode cX2_next 1 = .ok (.getfield 36, 3) := by decide +kernel
theorem dX2_next_4 : decode cX2_next 4 = .ok (.aload_n 0, 1) := by decide +kernel
theorem dX2_next_5 : decode cX2_next 5 = .ok (.getfield 25, 3) := by decide +kernel
theorem dX2_next_8 : decode cX2_next 8 = .ok (.if_icmp .ge 30, 3) := by decide +kernel
theorem dX2_next_11 : decode cX2_next 11 = .ok (.aload_n 0, 1) := by decide +kernel
theorem dX2_next_12 : decode cX2_next 12 = .ok (.getfield 29, 3) := by decide +kernel
theorem dX2_next_15 : decode cX2_next 15 = .ok (.aload_n 0, 1) := by decide +kernel
theorem dX2_next_16 : decode cX2_next 16 = .ok (.getfield 36, 3) := by decide +kernel
theorem dX2_next_19 : decode cX2_next 19 = .ok (.iaload, 1) := by decide +kernel
theorem dX2_next_20 : decode cX2_next 20 = .ok (.bipush 32, 2) := by decide +kernel
theorem dX2_next_22 : decode cX2_next 22 = .ok (.if_icmp .ne 16, 3) := by decide +kernel
theorem dX2_next_25 : decode cX2_next 25 = .ok (.aload_n 0, 1) := by decide +kernel
theorem dX2_next_26 : decode cX2_next 26 = .ok (.dup, 1) := by decide +kernel
theorem dX2_next_27 : decode cX2_next 27 = .ok (.getfield 36, 3) := by decide +kernel
theorem dX2_next_30 : decode cX2_next 30 = .ok (.iconst 1, 1) := by decide +kernel
theorem dX2_next_31 : decode cX2_next 31 = .ok (.iadd, 1) := by decide +kernel
theorem dX2_next_32 : decode cX2_next 32 = .ok (.putfield 36, 3) := by decide +kernel
theorem dX2_next_35 : decode cX2_next 35 = .ok (.goto (-35), 3) := by decide +kernel
theorem dX2_next_38 : decode cX2_next 38 = .ok (.aload_n 0, 1) := by decide +kernel
theorem dX2_next_39 : decode cX2_next 39 = .ok (.aload_n 0, 1) := by decide +kernel
theorem dX2_next_40 : decode cX2_next 40 = .ok (.getfield 36, 3) := by decide +kernel
theorem dX2_next_43 : decode cX2_next 43 = .ok (.putfield 39, 3) := by decide +kernel
theorem dX2_next_46 : decode cX2_next 46 = .ok (.aload_n 0, 1) := by decide +kernel
theorem dX2_next_47 : decode cX2_next 47 = .ok (.getfield 36, 3) := by decide +kernel
theorem dX2_next_50 : decode cX2_next 50 = .ok (.aload_n 0, 1) := by decide +kernel
theorem dX2_next_51 : decode cX2_next 51 = .ok (.getfield 25, 3) := by decide +kernel
theorem dX2_next_54 : decode cX2_next 54 = .ok (.if_icmp .ge 31, 3) := by decide +kernel
theorem dX2_next_57 : decode cX2_next 57 = .ok (.aload_n 0, 1) := by decide +kernel
theorem dX2_next_58 : decode cX2_next 58 = .ok (.getfield 29, 3) := by decide +kernel
theorem dX2_next_61 : decode cX2_next 61 = .ok (.aload_n 0, 1) := by decide +kernel
theorem dX2_next_62 : decode cX2_next 62 = .ok (.getfield 36, 3) := by decide +kernel
theorem dX2_next_65 : decode cX2_next 65 = .ok (.iaload, 1) := by decide +kernel
theorem dX2_next_66 : decode cX2_next 66 = .ok (.invokestatic 111, 3) := by decide +kernel
theorem dX2_next_69 : decode cX2_next 69 = .ok (.ifCond .eq 16, 3) := by decide +kernel
theorem dX2_next_72 : decode cX2_next 72 = .ok (.aload_n 0, 1) := by decide +kernel
theorem dX2_next_73 : decode cX2_next 73 = .ok (.dup, 1) := by decide +kernel
theorem dX2_next_74 : decode cX2_next 74 = .ok (.getfield 36, 3) := by decide +kernel
theorem dX2_next_77 : decode cX2_next 77 = .ok (.iconst 1, 1) := by decide +kernel
theorem dX2_next_78 : decode cX2_next 78 = .ok (.iadd, 1) := by decide +kernel
theorem dX2_next_79 : decode cX2_next 79 = .ok (.putfield 36, 3) := by decide +kernel
theorem dX2_next_82 : decode cX2_next 82 = .ok (.goto (-36), 3) := by decide +kernel
theorem dX2_next_85 : decode cX2_next 85 = .ok (.aload_n 0, 1) := by decide +kernel
theorem dX2_next_86 : decode cX2_next 86 = .ok (.getfield 36, 3) := by decide +kernel
theorem dX2_next_89 : decode cX2_next 89 = .ok (.aload_n 0, 1) := by decide +kernel
theorem dX2_next_90 : decode cX2_next 90 = .ok (.getfield 39, 3) := by decide +kernel
theorem dX2_next_93 : decode cX2_next 93 = .ok (.if_icmp .le 23, 3) := by decide +kernel
theorem dX2_next_96 : decode cX2_next 96 = .ok (.aload_n 0, 1) := by decide +kernel
theorem dX2_next_97 : decode cX2_next 97 = .ok (.aload_n 0, 1) := by decide +kernel
theorem dX2_next_98 : decode cX2_next 98 = .ok (.aload_n 0, 1) := by decide +kernel
theorem dX2_next_99 : decode cX2_next 99 = .ok (.getfield 36, 3) := by decide +kernel
theorem dX2_next_102 : decode cX2_next 102 = .ok (.aload_n 0, 1) := by decide +kernel
theorem dX2_next_103 : decode cX2_next 103 = .ok (.getfield 39, 3) := by decide +kernel
theorem dX2_next_106 : decode cX2_next 106 = .ok (.isub, 1) := by decide +kernel
theorem dX2_next_107 : decode cX2_next 107 = .ok (.invokevirtual 114, 3) := by decide +kernel
theorem dX2_next_110 : decode cX2_next 110 = .ok (.putfield 42, 3) := by decide +kernel
theorem dX2_next_113 : decode cX2_next 113 = .ok (.goto 45, 3) := by decide +kernel
theorem dX2_next_116 : decode cX2_next 116 = .ok (.aload_n 0, 1) := by decide +kernel
theorem dX2_next_117 : decode cX2_next 117 = .ok (.getfield 36, 3) := by decide +kernel
theorem dX2_next_120 : decode cX2_next 120 = .ok (.aload_n 0, 1) := by decide +kernel
theorem dX2_next_121 : decode cX2_next 121 = .ok (.getfield 25, 3) := by decide +kernel
theorem dX2_next_124 : decode cX2_next 124 = .ok (.if_icmp .lt 11, 3) := by decide +kernel
theorem dX2_next_127 : decode cX2_next 127 = .ok (.aload_n 0, 1) := by decide +kernel
theorem dX2_next_128 : decode cX2_next 128 = .ok (.iconst (-1), 1) := by decide +kernel
theorem dX2_next_129 : decode cX2_next 129 = .ok (.putfield 42, 3) := by decide +kernel
theorem dX2_next_132 : decode cX2_next 132 = .ok (.goto 26, 3) := by decide +kernel
theorem dX2_next_135 : decode cX2_next 135 = .ok (.aload_n 0, 1) := by decide +kernel
theorem dX2_next_136 : decode cX2_next 136 = .ok (.aload_n 0, 1) := by decide +kernel
theorem dX2_next_137 : decode cX2_next 137 = .ok (.getfield 29, 3) := by decide +kernel
theorem dX2_next_140 : decode cX2_next 140 = .ok (.aload_n 0, 1) := by decide +kernel
theorem dX2_next_141 : decode cX2_next 141 = .ok (.getfield 36, 3) := by decide +kernel
theorem dX2_next_144 : decode cX2_next 144 = .ok (.iaload, 1) := by decide +kernel
theorem dX2_next_145 : decode cX2_next 145 = .ok (.putfield 42, 3) := by decide +kernel
theorem dX2_next_148 : decode cX2_next 148 = .ok (.aload_n 0, 1) := by decide +kernel
theorem dX2_next_149 : decode cX2_next 149 = .ok (.dup, 1) := by decide +kernel
theorem dX2_next_150 : decode cX2_next 150 = .ok (.getfield 36, 3) := by decide +kernel
theorem dX2_next_153 : decode cX2_next 153 = .ok (.iconst 1, 1) := by decide +kernel
theorem dX2_next_154 : decode cX2_next 154 = .ok (.iadd, 1) := by decide +kernel
theorem dX2_next_155 : decode cX2_next 155 = .ok (.putfield 36, 3) := by decide +kernel
theorem dX2_next_158 : decode cX2_next 158 = .ok (.return_, 1) := by decide +kernel
theorem dX2_weigh_0 : decode cX2_weigh 0 = .ok (.aload_n 0, 1) := by decide +kernel
theorem dX2_weigh_1 : decode cX2_weigh 1 = .ok (.aload_n 0, 1) := by decide +kernel
theorem dX2_weigh_2 : decode cX2_weigh 2 = .ok (.getfield 29, 3) := by decide +kernel
theorem dX2_weigh_5 : decode cX2_weigh 5 = .ok (.aload_n 0, 1) := by decide +kernel
theorem dX2_weigh_6 : decode cX2_weigh 6 = .ok (.getfield 39, 3) := by decide +kernel
theorem dX2_weigh_9 : decode cX2_weigh 9 = .ok (.iaload, 1) := by decide +kernel
theorem dX2_weigh_10 : decode cX2_weigh 10 = .ok (.bipush 48, 2) := by decide +kernel
theorem dX2_weigh_12 : decode cX2_weigh 12 = .ok (.isub, 1) := by decide +kernel
theorem dX2_weigh_13 : decode cX2_weigh 13 = .ok (.putfield 45, 3) := by decide +kernel
theorem dX2_weigh_16 : decode cX2_weigh 16 = .ok (.iload_n 1, 1) := by decide +kernel
theorem dX2_weigh_17 : decode cX2_weigh 17 = .ok (.iconst 1, 1) := by decide +kernel
theorem dX2_weigh_18 : decode cX2_weigh 18 = .ok (.if_icmp .ne 6, 3) := by decide +kernel
theorem dX2_weigh_21 : decode cX2_weigh 21 = .ok (.bipush (-2), 2) := by decide +kernel
theorem dX2_weigh_23 : decode cX2_weigh 23 = .ok (.ireturn, 1) := by decide +kernel
theorem dX2_weigh_24 : decode cX2_weigh 24 = .ok (.iload_n 1, 1) := by decide +kernel
theorem dX2_weigh_25 : decode cX2_weigh 25 = .ok (.iconst 2, 1) := by decide +kernel
theorem dX2_weigh_26 : decode cX2_weigh 26 = .ok (.if_icmp .gt 10, 3) := by decide +kernel
theorem dX2_weigh_29 : decode cX2_weigh 29 = .ok (.aload_n 0, 1) := by decide +kernel
theorem dX2_weigh_30 : decode cX2_weigh 30 = .ok (.getfield 45, 3) := by decide +kernel
theorem dX2_weigh_33 : decode cX2_weigh 33 = .ok (.ifCond .ne 6, 3) := by decide +kernel
theorem dX2_weigh_36 : decode cX2_weigh 36 = .ok (.bipush (-3), 2) := by decide +kernel
theorem dX2_weigh_38 : decode cX2_weigh 38 = .ok (.ireturn, 1) := by decide +kernel
theorem dX2_weigh_39 : decode cX2_weigh 39 = .ok (.aload_n 0, 1) := by decide +kernel
theorem dX2_weigh_40 : decode cX2_weigh 40 = .ok (.aload_n 0, 1) := by decide +kernel
theorem dX2_weigh_41 : decode cX2_weigh 41 = .ok (.getfield 45, 3) := by decide +kernel
theorem dX2_weigh_44 : decode cX2_weigh 44 = .ok (.bipush 10, 2) := by decide +kernel
theorem dX2_weigh_46 : decode cX2_weigh 46 = .ok (.imul, 1) := by decide +kernel
theorem dX2_weigh_47 : decode cX2_weigh 47 = .ok (.aload_n 0, 1) := by decide +kernel
theorem dX2_weigh_48 : decode cX2_weigh 48 = .ok (.getfield 29, 3) := by decide +kernel
theorem dX2_weigh_51 : decode cX2_weigh 51 = .ok (.aload_n 0, 1) := by decide +kernel
theorem dX2_weigh_52 : decode cX2_weigh 52 = .ok (.getfield 39, 3) := by decide +kernel
theorem dX2_weigh_55 : decode cX2_weigh 55 = .ok (.iconst 1, 1) := by decide +kernel
theorem dX2_weigh_56 : decode cX2_weigh 56 = .ok (.iadd, 1) := by decide +kernel
theorem dX2_weigh_57 : decode cX2_weigh 57 = .ok (.iaload, 1) := by decide +kernel
theorem dX2_weigh_58 : decode cX2_weigh 58 = .ok (.iadd, 1) := by decide +kernel
theorem dX2_weigh_59 : decode cX2_weigh 59 = .ok (.bipush 48, 2) := by decide +kernel
theorem dX2_weigh_61 : decode cX2_weigh 61 = .ok (.isub, 1) := by decide +kernel
theorem dX2_weigh_62 : decode cX2_weigh 62 = .ok (.putfield 45, 3) := by decide +kernel
theorem dX2_weigh_65 : decode cX2_weigh 65 = .ok (.bipush (-2), 2) := by decide +kernel
theorem dX2_weigh_67 : decode cX2_weigh 67 = .ok (.ireturn, 1) := by decide +kernel
theorem dX2_isFigure_0 : decode cX2_isFigure 0 = .ok (.iload_n 0, 1) := by decide +kernel
theorem dX2_isFigure_1 : decode cX2_isFigure 1 = .ok (.bipush 48, 2) := by decide +kernel
theorem dX2_isFigure_3 : decode cX2_isFigure 3 = .ok (.if_icmp .lt 13, 3) := by decide +kernel
theorem dX2_isFigure_6 : decode cX2_isFigure 6 = .ok (.iload_n 0, 1) := by decide +kernel
theorem dX2_isFigure_7 : decode cX2_isFigure 7 = .ok (.bipush 57, 2) := by decide +kernel
theorem dX2_isFigure_9 : decode cX2_isFigure 9 = .ok (.if_icmp .gt 7, 3) := by decide +kernel
theorem dX2_isFigure_12 : decode cX2_isFigure 12 = .ok (.iconst 1, 1) := by decide +kernel
theorem dX2_isFigure_13 : decode cX2_isFigure 13 = .ok (.goto 4, 3) := by decide +kernel
theorem dX2_isFigure_16 : decode cX2_isFigure 16 = .ok (.iconst 0, 1) := by decide +kernel
theorem dX2_isFigure_17 : decode cX2_isFigure 17 = .ok (.ireturn, 1) := by decide +kernel
theorem dX3_init_0 : decode cX3_init 0 = .ok (.aload_n 0, 1) := by decide +kernel
theorem dX3_init_1 : decode cX3_init 1 = .ok (.invokespecial 3, 3) := by decide +kernel
theorem dX3_init_4 : decode cX3_init 4 = .ok (.aload_n 0, 1) := by decide +kernel
theorem dX3_init_5 : decode cX3_init 5 = .ok (.new 9, 3) := by decide +kernel
theorem dX3_init_8 : decode cX3_init 8 = .ok (.dup, 1) := by decide +kernel
theorem dX3_init_9 : decode cX3_init 9 = .ok (.invokespecial 11, 3) := by decide +kernel
theorem dX3_init_12 : decode cX3_init 12 = .ok (.putfield 12, 3) := by decide +kernel
theorem dX3_init_15 : decode cX3_init 15 = .ok (.aload_n 0, 1) := by decide +kernel
theorem dX3_init_16 : decode cX3_init 16 = .ok (.new 18, 3) := by decide +kernel
theorem dX3_init_19 : decode cX3_init 19 = .ok (.dup, 1) := by decide +kernel
theorem dX3_init_20 : decode cX3_init 20 = .ok (.invokespecial 20, 3) := by decide +kernel
theorem dX3_init_23 : decode cX3_init 23 = .ok (.putfield 21, 3) := by decide +kernel
theorem dX3_init_26 : decode cX3_init 26 = .ok (.aload_n 0, 1) := by decide +kernel
theorem dX3_init_27 : decode cX3_init 27 = .ok (.iconst 0, 1) := by decide +kernel
theorem dX3_init_28 : decode cX3_init 28 = .ok (.putfield 25, 3) := by decide +kernel
theorem dX3_init_31 : decode cX3_init 31 = .ok (.aload_n 0, 1) := by decide +kernel
theorem dX3_init_32 : decode cX3_init 32 = .ok (.bipush 32, 2) := by decide +kernel
theorem dX3_init_34 : decode cX3_init 34 = .ok (.bipush 7, 2) := by decide +kernel
theorem dX3_init_36 : decode cX3_init 36 = .ok (.multianewarray 29 2, 4) := by decide +kernel
theorem dX3_init_40 : decode cX3_init 40 = .ok (.putfield 31, 3) := by decide +kernel
theorem dX3_init_43 : decode cX3_init 43 = .ok (.aload_n 0, 1) := by decide +kernel
theorem dX3_init_44 : decode cX3_init 44 = .ok (.bipush 32, 2) := by decide +kernel
theorem dX3_init_46 : decode cX3_init 46 = .ok (.newarray .int, 2) := by decide +kernel
theorem dX3_init_48 : decode cX3_init 48 = .ok (.putfield 34, 3) := by decide +kernel
theorem dX3_init_51 : decode cX3_init 51 = .ok (.aload_n 0, 1) := by decide +kernel
theorem dX3_init_52 : decode cX3_init 52 = .ok (.bipush 8, 2) := by decide +kernel
theorem dX3_init_54 : decode cX3_init 54 = .ok (.sipush 784, 3) := by decide +kernel
theorem dX3_init_57 : decode cX3_init 57 = .ok (.multianewarray 29 2, 4) := by decide +kernel
theorem dX3_init_61 : decode cX3_init 61 = .ok (.putfield 38, 3) := by decide +kernel
theorem dX3_init_64 : decode cX3_init 64 = .ok (.aload_n 0, 1) := by decide +kernel
theorem dX3_init_65 : decode cX3_init 65 = .ok (.sipush 784, 3) := by decide +kernel
theorem dX3_init_68 : decode cX3_init 68 = .ok (.newarray .int, 2) := by decide +kernel
theorem dX3_init_70 : decode cX3_init 70 = .ok (.putfield 41, 3) := by decide +kernel
theorem dX3_init_73 : decode cX3_init 73 = .ok (.aload_n 0, 1) := by decide +kernel
theorem dX3_init_74 : decode cX3_init 74 = .ok (.bipush 7, 2) := by decide +kernel
theorem dX3_init_76 : decode cX3_init 76 = .ok (.newarray .int, 2) := by decide +kernel
theorem dX3_init_78 : decode cX3_init 78 = .ok (.putfield 44, 3) := by decide +kernel
theorem dX3_init_81 : decode cX3_init 81 = .ok (.aload_n 0, 1) := by decide +kernel
theorem dX3_init_82 : decode cX3_init 82 = .ok (.sipush 784, 3) := by decide +kernel
theorem dX3_init_85 : decode cX3_init 85 = .ok (.newarray .int, 2) := by decide +kernel
theorem dX3_init_87 : decode cX3_init 87 = .ok (.putfield 47, 3) := by decide +kernel
theorem dX3_init_90 : decode cX3_init 90 = .ok (.aload_n 0, 1) := by decide +kernel
theorem dX3_init_91 : decode cX3_init 91 = .ok (.sipush 784, 3) := by decide +kernel
theorem dX3_init_94 : decode cX3_init 94 = .ok (.newarray .int, 2) := by decide +kernel
theorem dX3_init_96 : decode cX3_init 96 = .ok (.putfield 50, 3) := by decide +kernel
theorem dX3_init_99 : decode cX3_init 99 = .ok (.aload_n 0, 1) := by decide +kernel
theorem dX3_init_100 : decode cX3_init 100 = .ok (.bipush 9, 2) := by decide +kernel
theorem dX3_init_102 : decode cX3_init 102 = .ok (.newarray .int, 2) := by decide +kernel
theorem dX3_init_104 : decode cX3_init 104 = .ok (.putfield 53, 3) := by decide +kernel
theorem dX3_init_107 : decode cX3_init 107 = .ok (.aload_n 0, 1) := by decide +kernel
theorem dX3_init_108 : decode cX3_init 108 = .ok (.bipush 32, 2) := by decide +kernel
theorem dX3_init_110 : decode cX3_init 110 = .ok (.newarray .int, 2) := by decide +kernel
theorem dX3_init_112 : decode cX3_init 112 = .ok (.putfield 56, 3) := by decide +kernel
theorem dX3_init_115 : decode cX3_init 115 = .ok (.return_, 1) := by decide +kernel
theorem dX3_evenSpreads_0 : decode cX3_evenSpreads 0 = .ok (.aload_n 0, 1) := by decide +kernel
theorem dX3_evenSpreads_1 : decode cX3_evenSpreads 1 = .ok (.iload_n 1, 1) := by decide +kernel
theorem dX3_evenSpreads_2 : decode cX3_evenSpreads 2 = .ok (.iload_n 2, 1) := by decide +kernel
theorem dX3_evenSpreads_3 : decode cX3_evenSpreads 3 = .ok (.invokevirtual 59, 3) := by decide +kernel
theorem dX3_evenSpreads_6 : decode cX3_evenSpreads 6 = .ok (.aload_n 0, 1) := by decide +kernel
theorem dX3_evenSpreads_7 : decode cX3_evenSpreads 7 = .ok (.iload_n 1, 1) := by decide +kernel
theorem dX3_evenSpreads_8 : decode cX3_evenSpreads 8 = .ok (.invokevirtual 63, 3) := by decide +kernel
theorem dX3_evenSpreads_11 : decode cX3_evenSpreads 11 = .ok (.istore_n 3, 1) := by decide +kernel
theorem dX3_evenSpreads_12 : decode cX3_evenSpreads 12 = .ok (.iconst 0, 1) := by decide +kernel
theorem dX3_evenSpreads_13 : decode cX3_evenSpreads 13 = .ok (.istore 4, 2) := by decide +kernel
theorem dX3_evenSpreads_15 : decode cX3_evenSpreads 15 = .ok (.iconst 0, 1) := by decide +kernel
theorem dX3_evenSpreads_16 : decode cX3_evenSpreads 16 = .ok (.istore 5, 2) := by decide +kernel
theorem dX3_evenSpreads_18 : decode cX3_evenSpreads 18 = .ok (.iload 5, 2) := by decide +kernel
theorem dX3_evenSpreads_20 : decode cX3_evenSpreads 20 = .ok (.iload_n 3, 1) := by decide +kernel
theorem dX3_evenSpreads_21 : decode cX3_evenSpreads 21 = .ok (.if_icmp .ge 29, 3) := by decide +kernel
theorem dX3_evenSpreads_24 : decode cX3_evenSpreads 24 = .ok (.aload_n 0, 1) := by decide +kernel
theorem dX3_evenSpreads_25 : decode cX3_evenSpreads 25 = .ok (.getfield 41, 3) := by decide +kernel
theorem dX3_evenSpreads_28 : decode cX3_evenSpreads 28 = .ok (.iload 5, 2) := by decide +kernel
theorem dX3_evenSpreads_30 : decode cX3_evenSpreads 30 = .ok (.iaload, 1) := by decide +kernel
theorem dX3_evenSpreads_31 : decode cX3_evenSpreads 31 = .ok (.aload_n 0, 1) := by decide +kernel
theorem dX3_evenSpreads_32 : decode cX3_evenSpreads 32 = .ok (.getfield 21, 3) := by decide +kernel
theorem dX3_evenSpreads_35 : decode cX3_evenSpreads 35 = .ok (.getfield 67, 3) := by decide +kernel
theorem dX3_evenSpreads_38 : decode cX3_evenSpreads 38 = .ok (.if_icmp .gt 6, 3) := by decide +kernel
theorem dX3_evenSpreads_41 : decode cX3_evenSpreads 41 = .ok (.iinc 4 1, 3) := by decide +kernel
theorem dX3_evenSpreads_44 : decode cX3_evenSpreads 44 = .ok (.iinc 5 1, 3) := by decide +kernel
theorem dX3_evenSpreads_47 : decode cX3_evenSpreads 47 = .ok (.goto (-29), 3) := by decide +kernel
theorem dX3_evenSpreads_50 : decode cX3_evenSpreads 50 = .ok (.iload 4, 2) := by decide +kernel
theorem dX3_evenSpreads_52 : decode cX3_evenSpreads 52 = .ok (.ireturn, 1) := by decide +kernel
theorem dX3_offer_0 : decode cX3_offer 0 = .ok (.iconst 1, 1) := by decide +kernel
theorem dX3_offer_1 : decode cX3_offer 1 = .ok (.aload_n 0, 1) := by decide +kernel
theorem dX3_offer_2 : decode cX3_offer 2 = .ok (.getfield 21, 3) := by decide +kernel
theorem dX3_offer_5 : decode cX3_offer 5 = .ok (.iload_n 1, 1) := by decide +kernel
theorem dX3_offer_6 : decode cX3_offer 6 = .ok (.invokevirtual 70, 3) := by decide +kernel
theorem dX3_offer_9 : decode cX3_offer 9 = .ok (.ishl, 1) := by decide +kernel
theorem dX3_offer_10 : decode cX3_offer 10 = .ok (.bipush 7, 2) := by decide +kernel
theorem dX3_offer_12 : decode cX3_offer 12 = .ok (.invokestatic 73, 3) := by decide +kernel
theorem dX3_offer_15 : decode cX3_offer 15 = .ok (.istore_n 3, 1) := by decide +kernel
theorem dX3_offer_16 : decode cX3_offer 16 = .ok (.iconst 0, 1) := by decide +kernel
theorem dX3_offer_17 : decode cX3_offer 17 = .ok (.istore 4, 2) := by decide +kernel
theorem dX3_offer_19 : decode cX3_offer 19 = .ok (.iload 4, 2) := by decide +kernel
theorem dX3_offer_21 : decode cX3_offer 21 = .ok (.iconst 4, 1) := by decide +kernel
theorem dX3_offer_22 : decode cX3_offer 22 = .ok (.if_icmp .ge 110, 3) := by decide +kernel
theorem dX3_offer_25 : decode cX3_offer 25 = .ok (.iload_n 1, 1) := by decide +kernel
theorem dX3_offer_26 : decode cX3_offer 26 = .ok (.iconst 4, 1) := by decide +kernel
theorem dX3_offer_27 : decode cX3_offer 27 = .ok (.imul, 1) := by decide +kernel
theorem dX3_offer_28 : decode cX3_offer 28 = .ok (.iload 4, 2) := by decide +kernel
theorem dX3_offer_30 : decode cX3_offer 30 = .ok (.iadd, 1) := by decide +kernel
theorem dX3_offer_31 : decode cX3_offer 31 = .ok (.istore 5, 2) := by decide +kernel
theorem dX3_offer_33 : decode cX3_offer 33 = .ok (.iconst 1, 1) := by decide +kernel
theorem dX3_offer_34 : decode cX3_offer 34 = .ok (.istore 6, 2) := by decide +kernel
theorem dX3_offer_36 : decode cX3_offer 36 = .ok (.aload_n 0, 1) := by decide +kernel
theorem dX3_offer_37 : decode cX3_offer 37 = .ok (.getfield 31, 3) := by decide +kernel
theorem dX3_offer_40 : decode cX3_offer 40 = .ok (.iload 5, 2) := by decide +kernel
theorem dX3_offer_42 : decode cX3_offer 42 = .ok (.aaload, 1) := by decide +kernel
theorem dX3_offer_43 : decode cX3_offer 43 = .ok (.iconst 0, 1) := by decide +kernel
theorem dX3_offer_44 : decode cX3_offer 44 = .ok (.iconst 0, 1) := by decide +kernel
theorem dX3_offer_45 : decode cX3_offer 45 = .ok (.iastore, 1) := by decide +kernel
theorem dX3_offer_46 : decode cX3_offer 46 = .ok (.iload 4, 2) := by decide +kernel
theorem dX3_offer_48 : decode cX3_offer 48 = .ok (.aload_n 0, 1) := by decide +kernel
theorem dX3_offer_49 : decode cX3_offer 49 = .ok (.getfield 12, 3) := by decide +kernel
theorem dX3_offer_52 : decode cX3_offer 52 = .ok (.getfield 79, 3) := by decide +kernel
theorem dX3_offer_55 : decode cX3_offer 55 = .ok (.if_icmp .ge 62, 3) := by decide +kernel
theorem dX3_offer_58 : decode cX3_offer 58 = .ok (.iload_n 2, 1) := by decide +kernel
theorem dX3_offer_59 : decode cX3_offer 59 = .ok (.iload 4, 2) := by decide +kernel
theorem dX3_offer_61 : decode cX3_offer 61 = .ok (.ishr, 1) := by decide +kernel
theorem dX3_offer_62 : decode cX3_offer 62 = .ok (.iconst 1, 1) := by decide +kernel
theorem dX3_offer_63 : decode cX3_offer 63 = .ok (.iand, 1) := by decide +kernel
theorem dX3_offer_64 : decode cX3_offer 64 = .ok (.iconst 1, 1) := by decide +kernel
theorem dX3_offer_65 : decode cX3_offer 65 = .ok (.if_icmp .ne 52, 3) := by decide +kernel
theorem dX3_offer_68 : decode cX3_offer 68 = .ok (.iconst 1, 1) := by decide +kernel
theorem dX3_offer_69 : decode cX3_offer 69 = .ok (.istore 7, 2) := by decide +kernel
theorem dX3_offer_71 : decode cX3_offer 71 = .ok (.iload 7, 2) := by decide +kernel
theorem dX3_offer_73 : decode cX3_offer 73 = .ok (.iload_n 3, 1) := by decide +kernel
theorem dX3_offer_74 : decode cX3_offer 74 = .ok (.if_icmp .ge 43, 3) := by decide +kernel
theorem dX3_offer_77 : decode cX3_offer 77 = .ok (.aload_n 0, 1) := by decide +kernel
theorem dX3_offer_78 : decode cX3_offer 78 = .ok (.getfield 12, 3) := by decide +kernel
theorem dX3_offer_81 : decode cX3_offer 81 = .ok (.iload 4, 2) := by decide +kernel
theorem dX3_offer_83 : decode cX3_offer 83 = .ok (.aload_n 0, 1) := by decide +kernel
theorem dX3_offer_84 : decode cX3_offer 84 = .ok (.getfield 21, 3) := by decide +kernel
theorem dX3_offer_87 : decode cX3_offer 87 = .ok (.iload_n 1, 1) := by decide +kernel
theorem dX3_offer_88 : decode cX3_offer 88 = .ok (.iload 7, 2) := by decide +kernel
theorem dX3_offer_90 : decode cX3_offer 90 = .ok (.invokevirtual 82, 3) := by decide +kernel
theorem dX3_offer_93 : decode cX3_offer 93 = .ok (.ifCond .eq 18, 3) := by decide +kernel
theorem dX3_offer_96 : decode cX3_offer 96 = .ok (.aload_n 0, 1) := by decide +kernel
theorem dX3_offer_97 : decode cX3_offer 97 = .ok (.getfield 31, 3) := by decide +kernel
theorem dX3_offer_100 : decode cX3_offer 100 = .ok (.iload 5, 2) := by decide +kernel
theorem dX3_offer_102 : decode cX3_offer 102 = .ok (.aaload, 1) := by decide +kernel
theorem dX3_offer_103 : decode cX3_offer 103 = .ok (.iload 6, 2) := by decide +kernel
theorem dX3_offer_105 : decode cX3_offer 105 = .ok (.iload 7, 2) := by decide +kernel
theorem dX3_offer_107 : decode cX3_offer 107 = .ok (.iastore, 1) := by decide +kernel
theorem dX3_offer_108 : decode cX3_offer 108 = .ok (.iinc 6 1, 3) := by decide +kernel
theorem dX3_offer_111 : decode cX3_offer 111 = .ok (.iinc 7 1, 3) := by decide +kernel
theorem dX3_offer_114 : decode cX3_offer 114 = .ok (.goto (-43), 3) := by decide +kernel
theorem dX3_offer_117 : decode cX3_offer 117 = .ok (.aload_n 0, 1) := by decide +kernel
theorem dX3_offer_118 : decode cX3_offer 118 = .ok (.getfield 34, 3) := by decide +kernel
theorem dX3_offer_121 : decode cX3_offer 121 = .ok (.iload 5, 2) := by decide +kernel
theorem dX3_offer_123 : decode cX3_offer 123 = .ok (.iload 6, 2) := by decide +kernel
theorem dX3_offer_125 : decode cX3_offer 125 = .ok (.iastore, 1) := by decide +kernel
theorem dX3_offer_126 : decode cX3_offer 126 = .ok (.iinc 4 1, 3) := by decide +kernel
theorem dX3_offer_129 : decode cX3_offer 129 = .ok (.goto (-110), 3) := by decide +kernel
theorem dX3_offer_132 : decode cX3_offer 132 = .ok (.return_, 1) := by decide +kernel
theorem dX3_findGaps_0 : decode cX3_findGaps 0 = .ok (.iconst 1, 1) := by decide +kernel
theorem dX3_findGaps_1 : decode cX3_findGaps 1 = .ok (.istore_n 2, 1) := by decide +kernel
theorem dX3_findGaps_2 : decode cX3_findGaps 2 = .ok (.aload_n 0, 1) := by decide +kernel
theorem dX3_findGaps_3 : decode cX3_findGaps 3 = .ok (.getfield 41, 3) := by decide +kernel
theorem dX3_findGaps_6 : decode cX3_findGaps 6 = .ok (.iconst 0, 1) := by decide +kernel
theorem dX3_findGaps_7 : decode cX3_findGaps 7 = .ok (.iconst 0, 1) := by decide +kernel
theorem dX3_findGaps_8 : decode cX3_findGaps 8 = .ok (.iastore, 1) := by decide +kernel
theorem dX3_findGaps_9 : decode cX3_findGaps 9 = .ok (.iconst 0, 1) := by decide +kernel
theorem dX3_findGaps_10 : decode cX3_findGaps 10 = .ok (.istore_n 3, 1) := by decide +kernel
theorem dX3_findGaps_11 : decode cX3_findGaps 11 = .ok (.iload_n 3, 1) := by decide +kernel
theorem dX3_findGaps_12 : decode cX3_findGaps 12 = .ok (.iconst 4, 1) := by decide +kernel
theorem dX3_findGaps_13 : decode cX3_findGaps 13 = .ok (.if_icmp .ge 76, 3) := by decide +kernel
theorem dX3_findGaps_16 : decode cX3_findGaps 16 = .ok (.iload_n 1, 1) := by decide +kernel
theorem dX3_findGaps_17 : decode cX3_findGaps 17 = .ok (.iconst 4, 1) := by decide +kernel
theorem dX3_findGaps_18 : decode cX3_findGaps 18 = .ok (.imul, 1) := by decide +kernel
theorem dX3_findGaps_19 : decode cX3_findGaps 19 = .ok (.iload_n 3, 1) := by decide +kernel
theorem dX3_findGaps_20 : decode cX3_findGaps 20 = .ok (.iadd, 1) := by decide +kernel
theorem dX3_findGaps_21 : decode cX3_findGaps 21 = .ok (.istore 4, 2) := by decide +kernel
theorem dX3_findGaps_23 : decode cX3_findGaps 23 = .ok (.iconst 0, 1) := by decide +kernel
theorem dX3_findGaps_24 : decode cX3_findGaps 24 = .ok (.istore 5, 2) := by decide +kernel
theorem dX3_findGaps_26 : decode cX3_findGaps 26 = .ok (.iload 5, 2) := by decide +kernel
theorem dX3_findGaps_28 : decode cX3_findGaps 28 = .ok (.aload_n 0, 1) := by decide +kernel
theorem dX3_findGaps_29 : decode cX3_findGaps 29 = .ok (.getfield 34, 3) := by decide +kernel
theorem dX3_findGaps_32 : decode cX3_findGaps 32 = .ok (.iload 4, 2) := by decide +kernel
theorem dX3_findGaps_34 : decode cX3_findGaps 34 = .ok (.iaload, 1) := by decide +kernel
theorem dX3_findGaps_35 : decode cX3_findGaps 35 = .ok (.if_icmp .ge 31, 3) := by decide +kernel
theorem dX3_findGaps_38 : decode cX3_findGaps 38 = .ok (.aload_n 0, 1) := by decide +kernel
theorem dX3_findGaps_39 : decode cX3_findGaps 39 = .ok (.getfield 44, 3) := by decide +kernel
theorem dX3_findGaps_42 : decode cX3_findGaps 42 = .ok (.iload 5, 2) := by decide +kernel
theorem dX3_findGaps_44 : decode cX3_findGaps 44 = .ok (.aload_n 0, 1) := by decide +kernel
theorem dX3_findGaps_45 : decode cX3_findGaps 45 = .ok (.iload_n 3, 1) := by decide +kernel
theorem dX3_findGaps_46 : decode cX3_findGaps 46 = .ok (.aload_n 0, 1) := by decide +kernel
theorem dX3_findGaps_47 : decode cX3_findGaps 47 = .ok (.getfield 31, 3) := by decide +kernel
theorem dX3_findGaps_50 : decode cX3_findGaps 50 = .ok (.iload 4, 2) := by decide +kernel
theorem dX3_findGaps_52 : decode cX3_findGaps 52 = .ok (.aaload, 1) := by decide +kernel
theorem dX3_findGaps_53 : decode cX3_findGaps 53 = .ok (.iload 5, 2) := by decide +kernel
theorem dX3_findGaps_55 : decode cX3_findGaps 55 = .ok (.iaload, 1) := by decide +kernel
theorem dX3_findGaps_56 : decode cX3_findGaps 56 = .ok (.invokevirtual 86, 3) := by decide +kernel
theorem dX3_findGaps_59 : decode cX3_findGaps 59 = .ok (.iastore, 1) := by decide +kernel
theorem dX3_findGaps_60 : decode cX3_findGaps 60 = .ok (.iinc 5 1, 3) := by decide +kernel
theorem dX3_findGaps_63 : decode cX3_findGaps 63 = .ok (.goto (-37), 3) := by decide +kernel
theorem dX3_findGaps_66 : decode cX3_findGaps 66 = .ok (.aload_n 0, 1) := by decide +kernel
theorem dX3_findGaps_67 : decode cX3_findGaps 67 = .ok (.aload_n 0, 1) := by decide +kernel
theorem dX3_findGaps_68 : decode cX3_findGaps 68 = .ok (.getfield 41, 3) := by decide +kernel
theorem dX3_findGaps_71 : decode cX3_findGaps 71 = .ok (.iload_n 2, 1) := by decide +kernel
theorem dX3_findGaps_72 : decode cX3_findGaps 72 = .ok (.aload_n 0, 1) := by decide +kernel
theorem dX3_findGaps_73 : decode cX3_findGaps 73 = .ok (.getfield 34, 3) := by decide +kernel
theorem dX3_findGaps_76 : decode cX3_findGaps 76 = .ok (.iload 4, 2) := by decide +kernel
theorem dX3_findGaps_78 : decode cX3_findGaps 78 = .ok (.iaload, 1) := by decide +kernel
theorem dX3_findGaps_79 : decode cX3_findGaps 79 = .ok (.invokevirtual 89, 3) := by decide +kernel
theorem dX3_findGaps_82 : decode cX3_findGaps 82 = .ok (.istore_n 2, 1) := by decide +kernel
theorem dX3_findGaps_83 : decode cX3_findGaps 83 = .ok (.iinc 3 1, 3) := by decide +kernel
theorem dX3_findGaps_86 : decode cX3_findGaps 86 = .ok (.goto (-75), 3) := by decide +kernel
theorem dX3_findGaps_89 : decode cX3_findGaps 89 = .ok (.aload_n 0, 1) := by decide +kernel
theorem dX3_findGaps_90 : decode cX3_findGaps 90 = .ok (.getfield 21, 3) := by decide +kernel
theorem dX3_findGaps_93 : decode cX3_findGaps 93 = .ok (.iload_n 1, 1) := by decide +kernel
theorem dX3_findGaps_94 : decode cX3_findGaps 94 = .ok (.invokevirtual 70, 3) := by decide +kernel
theorem dX3_findGaps_97 : decode cX3_findGaps 97 = .ok (.istore_n 3, 1) := by decide +kernel
theorem dX3_findGaps_98 : decode cX3_findGaps 98 = .ok (.iconst 0, 1) := by decide +kernel
theorem dX3_findGaps_99 : decode cX3_findGaps 99 = .ok (.istore 4, 2) := by decide +kernel
theorem dX3_findGaps_101 : decode cX3_findGaps 101 = .ok (.iload 4, 2) := by decide +kernel
theorem dX3_findGaps_103 : decode cX3_findGaps 103 = .ok (.iload_n 2, 1) := by decide +kernel
theorem dX3_findGaps_104 : decode cX3_findGaps 104 = .ok (.if_icmp .ge 27, 3) := by decide +kernel
theorem dX3_findGaps_107 : decode cX3_findGaps 107 = .ok (.aload_n 0, 1) := by decide +kernel
theorem dX3_findGaps_108 : decode cX3_findGaps 108 = .ok (.getfield 41, 3) := by decide +kernel
theorem dX3_findGaps_111 : decode cX3_findGaps 111 = .ok (.iload 4, 2) := by decide +kernel
theorem dX3_findGaps_113 : decode cX3_findGaps 113 = .ok (.aload_n 0, 1) := by decide +kernel
theorem dX3_findGaps_114 : decode cX3_findGaps 114 = .ok (.getfield 41, 3) := by decide +kernel
theorem dX3_findGaps_117 : decode cX3_findGaps 117 = .ok (.iload 4, 2) := by decide +kernel
theorem dX3_findGaps_119 : decode cX3_findGaps 119 = .ok (.iaload, 1) := by decide +kernel
theorem dX3_findGaps_120 : decode cX3_findGaps 120 = .ok (.iload_n 3, 1) := by decide +kernel
theorem dX3_findGaps_121 : decode cX3_findGaps 121 = .ok (.invokestatic 93, 3) := by decide +kernel
theorem dX3_findGaps_124 : decode cX3_findGaps 124 = .ok (.iastore, 1) := by decide +kernel
theorem dX3_findGaps_125 : decode cX3_findGaps 125 = .ok (.iinc 4 1, 3) := by decide +kernel
theorem dX3_findGaps_128 : decode cX3_findGaps 128 = .ok (.goto (-27), 3) := by decide +kernel
theorem dX3_findGaps_131 : decode cX3_findGaps 131 = .ok (.iload_n 2, 1) := by decide +kernel
theorem dX3_findGaps_132 : decode cX3_findGaps 132 = .ok (.ireturn, 1) := by decide +kernel
theorem dX3_packedLoud_0 : decode cX3_packedLoud 0 = .ok (.aload_n 0, 1) := by decide +kernel
theorem dX3_packedLoud_1 : decode cX3_packedLoud 1 = .ok (.getfield 12, 3) := by decide +kernel
theorem dX3_packedLoud_4 : decode cX3_packedLoud 4 = .ok (.iload_n 1, 1) := by decide +kernel
theorem dX3_packedLoud_5 : decode cX3_packedLoud 5 = .ok (.iload_n 2, 1) := by decide +kernel
theorem dX3_packedLoud_6 : decode cX3_packedLoud 6 = .ok (.invokevirtual 96, 3) := by decide +kernel
theorem dX3_packedLoud_9 : decode cX3_packedLoud 9 = .ok (.istore_n 3, 1) := by decide +kernel
theorem dX3_packedLoud_10 : decode cX3_packedLoud 10 = .ok (.iconst 0, 1) := by decide +kernel
theorem dX3_packedLoud_11 : decode cX3_packedLoud 11 = .ok (.istore 4, 2) := by decide +kernel
theorem dX3_packedLoud_13 : decode cX3_packedLoud 13 = .ok (.iconst 0, 1) := by decide +kernel
theorem dX3_packedLoud_14 : decode cX3_packedLoud 14 = .ok (.istore 5, 2) := by decide +kernel
theorem dX3_packedLoud_16 : decode cX3_packedLoud 16 = .ok (.iload 5, 2) := by decide +kernel
theorem dX3_packedLoud_18 : decode cX3_packedLoud 18 = .ok (.iconst 3, 1) := by decide +kernel
theorem dX3_packedLoud_19 : decode cX3_packedLoud 19 = .ok (.if_icmp .ge 31, 3) := by decide +kernel
theorem dX3_packedLoud_22 : decode cX3_packedLoud 22 = .ok (.iload_n 2, 1) := by decide +kernel
theorem dX3_packedLoud_23 : decode cX3_packedLoud 23 = .ok (.iload 5, 2) := by decide +kernel
theorem dX3_packedLoud_25 : decode cX3_packedLoud 25 = .ok (.ishr, 1) := by decide +kernel
theorem dX3_packedLoud_26 : decode cX3_packedLoud 26 = .ok (.iconst 1, 1) := by decide +kernel
theorem dX3_packedLoud_27 : decode cX3_packedLoud 27 = .ok (.iand, 1) := by decide +kernel
theorem dX3_packedLoud_28 : decode cX3_packedLoud 28 = .ok (.iconst 1, 1) := by decide +kernel
theorem dX3_packedLoud_29 : decode cX3_packedLoud 29 = .ok (.if_icmp .ne 15, 3) := by decide +kernel
theorem dX3_packedLoud_32 : decode cX3_packedLoud 32 = .ok (.iload 4, 2) := by decide +kernel
theorem dX3_packedLoud_34 : decode cX3_packedLoud 34 = .ok (.iload_n 3, 1) := by decide +kernel
theorem dX3_packedLoud_35 : decode cX3_packedLoud 35 = .ok (.iload 5, 2) := by decide +kernel
theorem dX3_packedLoud_37 : decode cX3_packedLoud 37 = .ok (.bipush 8, 2) := by decide +kernel
theorem dX3_packedLoud_39 : decode cX3_packedLoud 39 = .ok (.imul, 1) := by decide +kernel
theorem dX3_packedLoud_40 : decode cX3_packedLoud 40 = .ok (.ishl, 1) := by decide +kernel
theorem dX3_packedLoud_41 : decode cX3_packedLoud 41 = .ok (.ior, 1) := by decide +kernel
theorem dX3_packedLoud_42 : decode cX3_packedLoud 42 = .ok (.istore 4, 2) := by decide +kernel
theorem dX3_packedLoud_44 : decode cX3_packedLoud 44 = .ok (.iinc 5 1, 3) := by decide +kernel
theorem dX3_packedLoud_47 : decode cX3_packedLoud 47 = .ok (.goto (-31), 3) := by decide +kernel
theorem dX3_packedLoud_50 : decode cX3_packedLoud 50 = .ok (.iload 4, 2) := by decide +kernel
theorem dX3_packedLoud_52 : decode cX3_packedLoud 52 = .ok (.ireturn, 1) := by decide +kernel
theorem dX3_gapOf_0 : decode cX3_gapOf 0 = .ok (.iconst 0, 1) := by decide +kernel
theorem dX3_gapOf_1 : decode cX3_gapOf 1 = .ok (.istore_n 2, 1) := by decide +kernel
theorem dX3_gapOf_2 : decode cX3_gapOf 2 = .ok (.ldc 99, 2) := by decide +kernel
theorem dX3_gapOf_4 : decode cX3_gapOf 4 = .ok (.istore_n 3, 1) := by decide +kernel
theorem dX3_gapOf_5 : decode cX3_gapOf 5 = .ok (.iconst 0, 1) := by decide +kernel
theorem dX3_gapOf_6 : decode cX3_gapOf 6 = .ok (.istore 4, 2) := by decide +kernel
theorem dX3_gapOf_8 : decode cX3_gapOf 8 = .ok (.iload 4, 2) := by decide +kernel
theorem dX3_gapOf_10 : decode cX3_gapOf 10 = .ok (.iload_n 1, 1) := by decide +kernel
theorem dX3_gapOf_11 : decode cX3_gapOf 11 = .ok (.if_icmp .ge 36, 3) := by decide +kernel
theorem dX3_gapOf_14 : decode cX3_gapOf 14 = .ok (.iload_n 0, 1) := by decide +kernel
theorem dX3_gapOf_15 : decode cX3_gapOf 15 = .ok (.iload 4, 2) := by decide +kernel
theorem dX3_gapOf_17 : decode cX3_gapOf 17 = .ok (.bipush 8, 2) := by decide +kernel
theorem dX3_gapOf_19 : decode cX3_gapOf 19 = .ok (.imul, 1) := by decide +kernel
theorem dX3_gapOf_20 : decode cX3_gapOf 20 = .ok (.ishr, 1) := by decide +kernel
theorem dX3_gapOf_21 : decode cX3_gapOf 21 = .ok (.sipush 255, 3) := by decide +kernel
theorem dX3_gapOf_24 : decode cX3_gapOf 24 = .ok (.iand, 1) := by decide +kernel
theorem dX3_gapOf_25 : decode cX3_gapOf 25 = .ok (.istore 5, 2) := by decide +kernel
theorem dX3_gapOf_27 : decode cX3_gapOf 27 = .ok (.iload_n 2, 1) := by decide +kernel
theorem dX3_gapOf_28 : decode cX3_gapOf 28 = .ok (.iload 5, 2) := by decide +kernel
theorem dX3_gapOf_30 : decode cX3_gapOf 30 = .ok (.invokestatic 100, 3) := by decide +kernel
theorem dX3_gapOf_33 : decode cX3_gapOf 33 = .ok (.istore_n 2, 1) := by decide +kernel
theorem dX3_gapOf_34 : decode cX3_gapOf 34 = .ok (.iload_n 3, 1) := by decide +kernel
theorem dX3_gapOf_35 : decode cX3_gapOf 35 = .ok (.iload 5, 2) := by decide +kernel
theorem dX3_gapOf_37 : decode cX3_gapOf 37 = .ok (.invokestatic 73, 3) := by decide +kernel
theorem dX3_gapOf_40 : decode cX3_gapOf 40 = .ok (.istore_n 3, 1) := by decide +kernel
theorem dX3_gapOf_41 : decode cX3_gapOf 41 = .ok (.iinc 4 1, 3) := by decide +kernel
theorem dX3_gapOf_44 : decode cX3_gapOf 44 = .ok (.goto (-36), 3) := by decide +kernel
theorem dX3_gapOf_47 : decode cX3_gapOf 47 = .ok (.iload_n 3, 1) := by decide +kernel
theorem dX3_gapOf_48 : decode cX3_gapOf 48 = .ok (.ifCond .ne 8, 3) := by decide +kernel
theorem dX3_gapOf_51 : decode cX3_gapOf 51 = .ok (.ldc 99, 2) := by decide +kernel
theorem dX3_gapOf_53 : decode cX3_gapOf 53 = .ok (.goto 6, 3) := by decide +kernel
theorem dX3_gapOf_56 : decode cX3_gapOf 56 = .ok (.iload_n 2, 1) := by decide +kernel
theorem dX3_gapOf_57 : decode cX3_gapOf 57 = .ok (.iload_n 3, 1) := by decide +kernel
theorem dX3_gapOf_58 : decode cX3_gapOf 58 = .ok (.isub, 1) := by decide +kernel
theorem dX3_gapOf_59 : decode cX3_gapOf 59 = .ok (.ireturn, 1) := by decide +kernel
theorem dX3_widen_0 : decode cX3_widen 0 = .ok (.iload_n 2, 1) := by decide +kernel
theorem dX3_widen_1 : decode cX3_widen 1 = .ok (.iconst 1, 1) := by decide +kernel
theorem dX3_widen_2 : decode cX3_widen 2 = .ok (.isub, 1) := by decide +kernel
theorem dX3_widen_3 : decode cX3_widen 3 = .ok (.istore 4, 2) := by decide +kernel
theorem dX3_widen_5 : decode cX3_widen 5 = .ok (.iload 4, 2) := by decide +kernel
theorem dX3_widen_7 : decode cX3_widen 7 = .ok (.ifCond .lt 50, 3) := by decide +kernel
theorem dX3_widen_10 : decode cX3_widen 10 = .ok (.aload_n 1, 1) := by decide +kernel
theorem dX3_widen_11 : decode cX3_widen 11 = .ok (.iload 4, 2) := by decide +kernel
theorem dX3_widen_13 : decode cX3_widen 13 = .ok (.iaload, 1) := by decide +kernel
theorem dX3_widen_14 : decode cX3_widen 14 = .ok (.istore 5, 2) := by decide +kernel
theorem dX3_widen_16 : decode cX3_widen 16 = .ok (.iload_n 3, 1) := by decide +kernel
theorem dX3_widen_17 : decode cX3_widen 17 = .ok (.iconst 1, 1) := by decide +kernel
theorem dX3_widen_18 : decode cX3_widen 18 = .ok (.isub, 1) := by decide +kernel
theorem dX3_widen_19 : decode cX3_widen 19 = .ok (.istore 6, 2) := by decide +kernel
theorem dX3_widen_21 : decode cX3_widen 21 = .ok (.iload 6, 2) := by decide +kernel
theorem dX3_widen_23 : decode cX3_widen 23 = .ok (.ifCond .lt 28, 3) := by decide +kernel
theorem dX3_widen_26 : decode cX3_widen 26 = .ok (.aload_n 1, 1) := by decide +kernel
theorem dX3_widen_27 : decode cX3_widen 27 = .ok (.iload 4, 2) := by decide +kernel
theorem dX3_widen_29 : decode cX3_widen 29 = .ok (.iload_n 3, 1) := by decide +kernel
theorem dX3_widen_30 : decode cX3_widen 30 = .ok (.imul, 1) := by decide +kernel
theorem dX3_widen_31 : decode cX3_widen 31 = .ok (.iload 6, 2) := by decide +kernel
theorem dX3_widen_33 : decode cX3_widen 33 = .ok (.iadd, 1) := by decide +kernel
theorem dX3_widen_34 : decode cX3_widen 34 = .ok (.iload 5, 2) := by decide +kernel
theorem dX3_widen_36 : decode cX3_widen 36 = .ok (.aload_n 0, 1) := by decide +kernel
theorem dX3_widen_37 : decode cX3_widen 37 = .ok (.getfield 44, 3) := by decide +kernel
theorem dX3_widen_40 : decode cX3_widen 40 = .ok (.iload 6, 2) := by decide +kernel
theorem dX3_widen_42 : decode cX3_widen 42 = .ok (.iaload, 1) := by decide +kernel
theorem dX3_widen_43 : decode cX3_widen 43 = .ok (.iadd, 1) := by decide +kernel
theorem dX3_widen_44 : decode cX3_widen 44 = .ok (.iastore, 1) := by decide +kernel
theorem dX3_widen_45 : decode cX3_widen 45 = .ok (.iinc 6 (-1), 3) := by decide +kernel
theorem dX3_widen_48 : decode cX3_widen 48 = .ok (.goto (-27), 3) := by decide +kernel
theorem dX3_widen_51 : decode cX3_widen 51 = .ok (.iinc 4 (-1), 3) := by decide +kernel
theorem dX3_widen_54 : decode cX3_widen 54 = .ok (.goto (-49), 3) := by decide +kernel
theorem dX3_widen_57 : decode cX3_widen 57 = .ok (.iload_n 2, 1) := by decide +kernel
theorem dX3_widen_58 : decode cX3_widen 58 = .ok (.iload_n 3, 1) := by decide +kernel
theorem dX3_widen_59 : decode cX3_widen 59 = .ok (.imul, 1) := by decide +kernel
theorem dX3_widen_60 : decode cX3_widen 60 = .ok (.ireturn, 1) := by decide +kernel
theorem dX3_way_0 : decode cX3_way 0 = .ok (.iload_n 3, 1) := by decide +kernel
theorem dX3_way_1 : decode cX3_way 1 = .ok (.ifCond .eq 8, 3) := by decide +kernel
theorem dX3_way_4 : decode cX3_way 4 = .ok (.iload 5, 2) := by decide +kernel
theorem dX3_way_6 : decode cX3_way 6 = .ok (.ifCond .ne 21, 3) := by decide +kernel
theorem dX3_way_9 : decode cX3_way 9 = .ok (.iload_n 3, 1) := by decide +kernel
theorem dX3_way_10 : decode cX3_way 10 = .ok (.iload 5, 2) := by decide +kernel
theorem dX3_way_12 : decode cX3_way 12 = .ok (.if_icmp .ne 7, 3) := by decide +kernel
theorem dX3_way_15 : decode cX3_way 15 = .ok (.iconst 0, 1) := by decide +kernel
theorem dX3_way_16 : decode cX3_way 16 = .ok (.goto 10, 3) := by decide +kernel
theorem dX3_way_19 : decode cX3_way 19 = .ok (.aload_n 0, 1) := by decide +kernel
theorem dX3_way_20 : decode cX3_way 20 = .ok (.getfield 21, 3) := by decide +kernel
theorem dX3_way_23 : decode cX3_way 23 = .ok (.getfield 103, 3) := by decide +kernel
theorem dX3_way_26 : decode cX3_way 26 = .ok (.ireturn, 1) := by decide +kernel
theorem dX3_way_27 : decode cX3_way 27 = .ok (.aload_n 0, 1) := by decide +kernel
theorem dX3_way_28 : decode cX3_way 28 = .ok (.getfield 21, 3) := by decide +kernel
theorem dX3_way_31 : decode cX3_way 31 = .ok (.iload_n 2, 1) := by decide +kernel
theorem dX3_way_32 : decode cX3_way 32 = .ok (.iload_n 3, 1) := by decide +kernel
theorem dX3_way_33 : decode cX3_way 33 = .ok (.invokevirtual 106, 3) := by decide +kernel
theorem dX3_way_36 : decode cX3_way 36 = .ok (.aload_n 0, 1) := by decide +kernel
theorem dX3_way_37 : decode cX3_way 37 = .ok (.getfield 21, 3) := by decide +kernel
theorem dX3_way_40 : decode cX3_way 40 = .ok (.iload 4, 2) := by decide +kernel
theorem dX3_way_42 : decode cX3_way 42 = .ok (.iload 5, 2) := by decide +kernel
theorem dX3_way_44 : decode cX3_way 44 = .ok (.invokevirtual 106, 3) := by decide +kernel
theorem dX3_way_47 : decode cX3_way 47 = .ok (.isub, 1) := by decide +kernel
theorem dX3_way_48 : decode cX3_way 48 = .ok (.invokestatic 109, 3) := by decide +kernel
theorem dX3_way_51 : decode cX3_way 51 = .ok (.istore 6, 2) := by decide +kernel
theorem dX3_way_53 : decode cX3_way 53 = .ok (.iload 6, 2) := by decide +kernel
theorem dX3_way_55 : decode cX3_way 55 = .ok (.ifCond .ne 19, 3) := by decide +kernel
theorem dX3_way_58 : decode cX3_way 58 = .ok (.aload_n 0, 1) := by decide +kernel
theorem dX3_way_59 : decode cX3_way 59 = .ok (.getfield 12, 3) := by decide +kernel
theorem dX3_way_62 : decode cX3_way 62 = .ok (.getfield 112, 3) := by decide +kernel
theorem dX3_way_65 : decode cX3_way 65 = .ok (.iload_n 1, 1) := by decide +kernel
theorem dX3_way_66 : decode cX3_way 66 = .ok (.iaload, 1) := by decide +kernel
theorem dX3_way_67 : decode cX3_way 67 = .ok (.iconst 2, 1) := by decide +kernel
theorem dX3_way_68 : decode cX3_way 68 = .ok (.if_icmp .ne 6, 3) := by decide +kernel
theorem dX3_way_71 : decode cX3_way 71 = .ok (.ldc 99, 2) := by decide +kernel
theorem dX3_way_73 : decode cX3_way 73 = .ok (.ireturn, 1) := by decide +kernel
theorem dX3_way_74 : decode cX3_way 74 = .ok (.iload_n 3, 1) := by decide +kernel
theorem dX3_way_75 : decode cX3_way 75 = .ok (.invokestatic 115, 3) := by decide +kernel
theorem dX3_way_78 : decode cX3_way 78 = .ok (.iload 5, 2) := by decide +kernel
theorem dX3_way_80 : decode cX3_way 80 = .ok (.invokestatic 115, 3) := by decide +kernel
theorem dX3_way_83 : decode cX3_way 83 = .ok (.if_icmp .ne 8, 3) := by decide +kernel
theorem dX3_way_86 : decode cX3_way 86 = .ok (.iload 6, 2) := by decide +kernel
theorem dX3_way_88 : decode cX3_way 88 = .ok (.goto 7, 3) := by decide +kernel
theorem dX3_way_91 : decode cX3_way 91 = .ok (.iload 6, 2) := by decide +kernel
theorem dX3_way_93 : decode cX3_way 93 = .ok (.iconst 2, 1) := by decide +kernel
theorem dX3_way_94 : decode cX3_way 94 = .ok (.iadd, 1) := by decide +kernel
theorem dX3_way_95 : decode cX3_way 95 = .ok (.ireturn, 1) := by decide +kernel
theorem dX3_carry_0 : decode cX3_carry 0 = .ok (.iconst 3, 1) := by decide +kernel
theorem dX3_carry_1 : decode cX3_carry 1 = .ok (.istore 4, 2) := by decide +kernel
theorem dX3_carry_3 : decode cX3_carry 3 = .ok (.iload 4, 2) := by decide +kernel
theorem dX3_carry_5 : decode cX3_carry 5 = .ok (.ifCond .lt 92, 3) := by decide +kernel
theorem dX3_carry_8 : decode cX3_carry 8 = .ok (.iconst 1, 1) := by decide +kernel
theorem dX3_carry_9 : decode cX3_carry 9 = .ok (.istore 5, 2) := by decide +kernel
theorem dX3_carry_11 : decode cX3_carry 11 = .ok (.iconst 0, 1) := by decide +kernel
theorem dX3_carry_12 : decode cX3_carry 12 = .ok (.istore 6, 2) := by decide +kernel
theorem dX3_carry_14 : decode cX3_carry 14 = .ok (.iload 6, 2) := by decide +kernel
theorem dX3_carry_16 : decode cX3_carry 16 = .ok (.iconst 4, 1) := by decide +kernel
theorem dX3_carry_17 : decode cX3_carry 17 = .ok (.if_icmp .ge 43, 3) := by decide +kernel
theorem dX3_carry_20 : decode cX3_carry 20 = .ok (.iload 6, 2) := by decide +kernel
theorem dX3_carry_22 : decode cX3_carry 22 = .ok (.iload 4, 2) := by decide +kernel
theorem dX3_carry_24 : decode cX3_carry 24 = .ok (.if_icmp .eq 30, 3) := by decide +kernel
theorem dX3_carry_27 : decode cX3_carry 27 = .ok (.iload 5, 2) := by decide +kernel
theorem dX3_carry_29 : decode cX3_carry 29 = .ok (.aload_n 0, 1) := by decide +kernel
theorem dX3_carry_30 : decode cX3_carry 30 = .ok (.getfield 34, 3) := by decide +kernel
theorem dX3_carry_33 : decode cX3_carry 33 = .ok (.iload 6, 2) := by decide +kernel
theorem dX3_carry_35 : decode cX3_carry 35 = .ok (.iload 4, 2) := by decide +kernel
theorem dX3_carry_37 : decode cX3_carry 37 = .ok (.if_icmp .ge 7, 3) := by decide +kernel
theorem dX3_carry_40 : decode cX3_carry 40 = .ok (.iload_n 1, 1) := by decide +kernel
theorem dX3_carry_41 : decode cX3_carry 41 = .ok (.goto 4, 3) := by decide +kernel
theorem dX3_carry_44 : decode cX3_carry 44 = .ok (.iload_n 2, 1) := by decide +kernel
theorem dX3_carry_45 : decode cX3_carry 45 = .ok (.iconst 4, 1) := by decide +kernel
theorem dX3_carry_46 : decode cX3_carry 46 = .ok (.imul, 1) := by decide +kernel
theorem dX3_carry_47 : decode cX3_carry 47 = .ok (.iload 6, 2) := by decide +kernel
theorem dX3_carry_49 : decode cX3_carry 49 = .ok (.iadd, 1) := by decide +kernel
theorem dX3_carry_50 : decode cX3_carry 50 = .ok (.iaload, 1) := by decide +kernel
theorem dX3_carry_51 : decode cX3_carry 51 = .ok (.imul, 1) := by decide +kernel
theorem dX3_carry_52 : decode cX3_carry 52 = .ok (.istore 5, 2) := by decide +kernel
theorem dX3_carry_54 : decode cX3_carry 54 = .ok (.iinc 6 1, 3) := by decide +kernel
theorem dX3_carry_57 : decode cX3_carry 57 = .ok (.goto (-43), 3) := by decide +kernel
theorem dX3_carry_60 : decode cX3_carry 60 = .ok (.aload_n 0, 1) := by decide +kernel
theorem dX3_carry_61 : decode cX3_carry 61 = .ok (.iload 4, 2) := by decide +kernel
theorem dX3_carry_63 : decode cX3_carry 63 = .ok (.iload_n 1, 1) := by decide +kernel
theorem dX3_carry_64 : decode cX3_carry 64 = .ok (.iload_n 2, 1) := by decide +kernel
theorem dX3_carry_65 : decode cX3_carry 65 = .ok (.iload 5, 2) := by decide +kernel
theorem dX3_carry_67 : decode cX3_carry 67 = .ok (.iload_n 3, 1) := by decide +kernel
theorem dX3_carry_68 : decode cX3_carry 68 = .ok (.invokevirtual 120, 3) := by decide +kernel
theorem dX3_carry_71 : decode cX3_carry 71 = .ok (.aload_n 0, 1) := by decide +kernel
theorem dX3_carry_72 : decode cX3_carry 72 = .ok (.getfield 50, 3) := by decide +kernel
theorem dX3_carry_75 : decode cX3_carry 75 = .ok (.astore 6, 2) := by decide +kernel
theorem dX3_carry_77 : decode cX3_carry 77 = .ok (.aload_n 0, 1) := by decide +kernel
theorem dX3_carry_78 : decode cX3_carry 78 = .ok (.aload_n 0, 1) := by decide +kernel
theorem dX3_carry_79 : decode cX3_carry 79 = .ok (.getfield 47, 3) := by decide +kernel
theorem dX3_carry_82 : decode cX3_carry 82 = .ok (.putfield 50, 3) := by decide +kernel
theorem dX3_carry_85 : decode cX3_carry 85 = .ok (.aload_n 0, 1) := by decide +kernel
theorem dX3_carry_86 : decode cX3_carry 86 = .ok (.aload 6, 2) := by decide +kernel
theorem dX3_carry_88 : decode cX3_carry 88 = .ok (.putfield 47, 3) := by decide +kernel
theorem dX3_carry_91 : decode cX3_carry 91 = .ok (.iinc 4 (-1), 3) := by decide +kernel
theorem dX3_carry_94 : decode cX3_carry 94 = .ok (.goto (-91), 3) := by decide +kernel
theorem dX3_carry_97 : decode cX3_carry 97 = .ok (.return_, 1) := by decide +kernel
theorem dX3_carryPlayer_0 : decode cX3_carryPlayer 0 = .ok (.aload_n 0, 1) := by decide +kernel
theorem dX3_carryPlayer_1 : decode cX3_carryPlayer 1 = .ok (.getfield 31, 3) := by decide +kernel
theorem dX3_carryPlayer_4 : decode cX3_carryPlayer 4 = .ok (.iload_n 2, 1) := by decide +kernel
theorem dX3_carryPlayer_5 : decode cX3_carryPlayer 5 = .ok (.iconst 4, 1) := by decide +kernel
theorem dX3_carryPlayer_6 : decode cX3_carryPlayer 6 = .ok (.imul, 1) := by decide +kernel
theorem dX3_carryPlayer_7 : decode cX3_carryPlayer 7 = .ok (.iload_n 1, 1) := by decide +kernel
theorem dX3_carryPlayer_8 : decode cX3_carryPlayer 8 = .ok (.iadd, 1) := by decide +kernel
theorem dX3_carryPlayer_9 : decode cX3_carryPlayer 9 = .ok (.aaload, 1) := by decide +kernel
theorem dX3_carryPlayer_10 : decode cX3_carryPlayer 10 = .ok (.astore 6, 2) := by decide +kernel
theorem dX3_carryPlayer_12 : decode cX3_carryPlayer 12 = .ok (.aload_n 0, 1) := by decide +kernel
theorem dX3_carryPlayer_13 : decode cX3_carryPlayer 13 = .ok (.getfield 31, 3) := by decide +kernel
theorem dX3_carryPlayer_16 : decode cX3_carryPlayer 16 = .ok (.iload_n 3, 1) := by decide +kernel
theorem dX3_carryPlayer_17 : decode cX3_carryPlayer 17 = .ok (.iconst 4, 1) := by decide +kernel
theorem dX3_carryPlayer_18 : decode cX3_carryPlayer 18 = .ok (.imul, 1) := by decide +kernel
theorem dX3_carryPlayer_19 : decode cX3_carryPlayer 19 = .ok (.iload_n 1, 1) := by decide +kernel
theorem dX3_carryPlayer_20 : decode cX3_carryPlayer 20 = .ok (.iadd, 1) := by decide +kernel
theorem dX3_carryPlayer_21 : decode cX3_carryPlayer 21 = .ok (.aaload, 1) := by decide +kernel
theorem dX3_carryPlayer_22 : decode cX3_carryPlayer 22 = .ok (.astore 7, 2) := by decide +kernel
theorem dX3_carryPlayer_24 : decode cX3_carryPlayer 24 = .ok (.aload_n 0, 1) := by decide +kernel
theorem dX3_carryPlayer_25 : decode cX3_carryPlayer 25 = .ok (.getfield 34, 3) := by decide +kernel
theorem dX3_carryPlayer_28 : decode cX3_carryPlayer 28 = .ok (.iload_n 2, 1) := by decide +kernel
theorem dX3_carryPlayer_29 : decode cX3_carryPlayer 29 = .ok (.iconst 4, 1) := by decide +kernel
theorem dX3_carryPlayer_30 : decode cX3_carryPlayer 30 = .ok (.imul, 1) := by decide +kernel
theorem dX3_carryPlayer_31 : decode cX3_carryPlayer 31 = .ok (.iload_n 1, 1) := by decide +kernel
theorem dX3_carryPlayer_32 : decode cX3_carryPlayer 32 = .ok (.iadd, 1) := by decide +kernel
theorem dX3_carryPlayer_33 : decode cX3_carryPlayer 33 = .ok (.iaload, 1) := by decide +kernel
theorem dX3_carryPlayer_34 : decode cX3_carryPlayer 34 = .ok (.istore 8, 2) := by decide +kernel
theorem dX3_carryPlayer_36 : decode cX3_carryPlayer 36 = .ok (.aload_n 0, 1) := by decide +kernel
theorem dX3_carryPlayer_37 : decode cX3_carryPlayer 37 = .ok (.getfield 34, 3) := by decide +kernel
theorem dX3_carryPlayer_40 : decode cX3_carryPlayer 40 = .ok (.iload_n 3, 1) := by decide +kernel
theorem dX3_carryPlayer_41 : decode cX3_carryPlayer 41 = .ok (.iconst 4, 1) := by decide +kernel
theorem dX3_carryPlayer_42 : decode cX3_carryPlayer 42 = .ok (.imul, 1) := by decide +kernel
theorem dX3_carryPlayer_43 : decode cX3_carryPlayer 43 = .ok (.iload_n 1, 1) := by decide +kernel
theorem dX3_carryPlayer_44 : decode cX3_carryPlayer 44 = .ok (.iadd, 1) := by decide +kernel
theorem dX3_carryPlayer_45 : decode cX3_carryPlayer 45 = .ok (.iaload, 1) := by decide +kernel
theorem dX3_carryPlayer_46 : decode cX3_carryPlayer 46 = .ok (.istore 9, 2) := by decide +kernel
theorem dX3_carryPlayer_48 : decode cX3_carryPlayer 48 = .ok (.aload_n 0, 1) := by decide +kernel
theorem dX3_carryPlayer_49 : decode cX3_carryPlayer 49 = .ok (.getfield 50, 3) := by decide +kernel
theorem dX3_carryPlayer_52 : decode cX3_carryPlayer 52 = .ok (.iload 4, 2) := by decide +kernel
theorem dX3_carryPlayer_54 : decode cX3_carryPlayer 54 = .ok (.iload 9, 2) := by decide +kernel
theorem dX3_carryPlayer_56 : decode cX3_carryPlayer 56 = .ok (.imul, 1) := by decide +kernel
theorem dX3_carryPlayer_57 : decode cX3_carryPlayer 57 = .ok (.ldc 99, 2) := by decide +kernel
theorem dX3_carryPlayer_59 : decode cX3_carryPlayer 59 = .ok (.invokestatic 124, 3) := by decide +kernel
theorem dX3_carryPlayer_62 : decode cX3_carryPlayer 62 = .ok (.iconst 0, 1) := by decide +kernel
theorem dX3_carryPlayer_63 : decode cX3_carryPlayer 63 = .ok (.istore 10, 2) := by decide +kernel
theorem dX3_carryPlayer_65 : decode cX3_carryPlayer 65 = .ok (.iload 10, 2) := by decide +kernel
theorem dX3_carryPlayer_67 : decode cX3_carryPlayer 67 = .ok (.iload 9, 2) := by decide +kernel
theorem dX3_carryPlayer_69 : decode cX3_carryPlayer 69 = .ok (.if_icmp .ge 82, 3) := by decide +kernel
theorem dX3_carryPlayer_72 : decode cX3_carryPlayer 72 = .ok (.iconst 0, 1) := by decide +kernel
theorem dX3_carryPlayer_73 : decode cX3_carryPlayer 73 = .ok (.istore 11, 2) := by decide +kernel
theorem dX3_carryPlayer_75 : decode cX3_carryPlayer 75 = .ok (.iload 11, 2) := by decide +kernel
theorem dX3_carryPlayer_77 : decode cX3_carryPlayer 77 = .ok (.iload 8, 2) := by decide +kernel
theorem dX3_carryPlayer_79 : decode cX3_carryPlayer 79 = .ok (.if_icmp .ge 66, 3) := by decide +kernel
theorem dX3_carryPlayer_82 : decode cX3_carryPlayer 82 = .ok (.aload_n 0, 1) := by decide +kernel
theorem dX3_carryPlayer_83 : decode cX3_carryPlayer 83 = .ok (.iload_n 1, 1) := by decide +kernel
theorem dX3_carryPlayer_84 : decode cX3_carryPlayer 84 = .ok (.iload_n 2, 1) := by decide +kernel
theorem dX3_carryPlayer_85 : decode cX3_carryPlayer 85 = .ok (.aload 6, 2) := by decide +kernel
theorem dX3_carryPlayer_87 : decode cX3_carryPlayer 87 = .ok (.iload 11, 2) := by decide +kernel
theorem dX3_carryPlayer_89 : decode cX3_carryPlayer 89 = .ok (.iaload, 1) := by decide +kernel
theorem dX3_carryPlayer_90 : decode cX3_carryPlayer 90 = .ok (.iload_n 3, 1) := by decide +kernel
theorem dX3_carryPlayer_91 : decode cX3_carryPlayer 91 = .ok (.aload 7, 2) := by decide +kernel
theorem dX3_carryPlayer_93 : decode cX3_carryPlayer 93 = .ok (.iload 10, 2) := by decide +kernel
theorem dX3_carryPlayer_95 : decode cX3_carryPlayer 95 = .ok (.iaload, 1) := by decide +kernel
theorem dX3_carryPlayer_96 : decode cX3_carryPlayer 96 = .ok (.invokevirtual 128, 3) := by decide +kernel
theorem dX3_carryPlayer_99 : decode cX3_carryPlayer 99 = .ok (.istore 12, 2) := by decide +kernel
theorem dX3_carryPlayer_101 : decode cX3_carryPlayer 101 = .ok (.iload 12, 2) := by decide +kernel
theorem dX3_carryPlayer_103 : decode cX3_carryPlayer 103 = .ok (.ldc 99, 2) := by decide +kernel
theorem dX3_carryPlayer_105 : decode cX3_carryPlayer 105 = .ok (.if_icmp .ge 34, 3) := by decide +kernel
theorem dX3_carryPlayer_108 : decode cX3_carryPlayer 108 = .ok (.aload_n 0, 1) := by decide +kernel
theorem dX3_carryPlayer_109 : decode cX3_carryPlayer 109 = .ok (.iload 10, 2) := by decide +kernel
theorem dX3_carryPlayer_111 : decode cX3_carryPlayer 111 = .ok (.iload 4, 2) := by decide +kernel
theorem dX3_carryPlayer_113 : decode cX3_carryPlayer 113 = .ok (.imul, 1) := by decide +kernel
theorem dX3_carryPlayer_114 : decode cX3_carryPlayer 114 = .ok (.iload 10, 2) := by decide +kernel
theorem dX3_carryPlayer_116 : decode cX3_carryPlayer 116 = .ok (.iconst 1, 1) := by decide +kernel
theorem dX3_carryPlayer_117 : decode cX3_carryPlayer 117 = .ok (.iadd, 1) := by decide +kernel
theorem dX3_carryPlayer_118 : decode cX3_carryPlayer 118 = .ok (.iload 4, 2) := by decide +kernel
theorem dX3_carryPlayer_120 : decode cX3_carryPlayer 120 = .ok (.imul, 1) := by decide +kernel
theorem dX3_carryPlayer_121 : decode cX3_carryPlayer 121 = .ok (.iload 11, 2) := by decide +kernel
theorem dX3_carryPlayer_123 : decode cX3_carryPlayer 123 = .ok (.iload 8, 2) := by decide +kernel
theorem dX3_carryPlayer_125 : decode cX3_carryPlayer 125 = .ok (.iload 5, 2) := by decide +kernel
theorem dX3_carryPlayer_127 : decode cX3_carryPlayer 127 = .ok (.ifCond .eq 8, 3) := by decide +kernel
theorem dX3_carryPlayer_130 : decode cX3_carryPlayer 130 = .ok (.iload 12, 2) := by decide +kernel
theorem dX3_carryPlayer_132 : decode cX3_carryPlayer 132 = .ok (.goto 4, 3) := by decide +kernel
theorem dX3_carryPlayer_135 : decode cX3_carryPlayer 135 = .ok (.iconst 0, 1) := by decide +kernel
theorem dX3_carryPlayer_136 : decode cX3_carryPlayer 136 = .ok (.invokevirtual 132, 3) := by decide +kernel
theorem dX3_carryPlayer_139 : decode cX3_carryPlayer 139 = .ok (.iinc 11 1, 3) := by decide +kernel
theorem dX3_carryPlayer_142 : decode cX3_carryPlayer 142 = .ok (.goto (-67), 3) := by decide +kernel
theorem dX3_carryPlayer_145 : decode cX3_carryPlayer 145 = .ok (.iinc 10 1, 3) := by decide +kernel
theorem dX3_carryPlayer_148 : decode cX3_carryPlayer 148 = .ok (.goto (-83), 3) := by decide +kernel
theorem dX3_carryPlayer_151 : decode cX3_carryPlayer 151 = .ok (.return_, 1) := by decide +kernel
theorem dX3_lower_0 : decode cX3_lower 0 = .ok (.aload_n 0, 1) := by decide +kernel
theorem dX3_lower_1 : decode cX3_lower 1 = .ok (.getfield 47, 3) := by decide +kernel
theorem dX3_lower_4 : decode cX3_lower 4 = .ok (.astore 6, 2) := by decide +kernel
theorem dX3_lower_6 : decode cX3_lower 6 = .ok (.aload_n 0, 1) := by decide +kernel
theorem dX3_lower_7 : decode cX3_lower 7 = .ok (.getfield 50, 3) := by decide +kernel
theorem dX3_lower_10 : decode cX3_lower 10 = .ok (.astore 7, 2) := by decide +kernel
theorem dX3_lower_12 : decode cX3_lower 12 = .ok (.iload_n 3, 1) := by decide +kernel
theorem dX3_lower_13 : decode cX3_lower 13 = .ok (.istore 8, 2) := by decide +kernel
theorem dX3_lower_15 : decode cX3_lower 15 = .ok (.iload_n 1, 1) := by decide +kernel
theorem dX3_lower_16 : decode cX3_lower 16 = .ok (.istore 9, 2) := by decide +kernel
theorem dX3_lower_18 : decode cX3_lower 18 = .ok (.iload 9, 2) := by decide +kernel
theorem dX3_lower_20 : decode cX3_lower 20 = .ok (.iload_n 2, 1) := by decide +kernel
theorem dX3_lower_21 : decode cX3_lower 21 = .ok (.if_icmp .ge 43, 3) := by decide +kernel
theorem dX3_lower_24 : decode cX3_lower 24 = .ok (.aload 6, 2) := by decide +kernel
theorem dX3_lower_26 : decode cX3_lower 26 = .ok (.iload 8, 2) := by decide +kernel
theorem dX3_lower_28 : decode cX3_lower 28 = .ok (.iaload, 1) := by decide +kernel
theorem dX3_lower_29 : decode cX3_lower 29 = .ok (.iload 5, 2) := by decide +kernel
theorem dX3_lower_31 : decode cX3_lower 31 = .ok (.iadd, 1) := by decide +kernel
theorem dX3_lower_32 : decode cX3_lower 32 = .ok (.istore 10, 2) := by decide +kernel
theorem dX3_lower_34 : decode cX3_lower 34 = .ok (.iload 10, 2) := by decide +kernel
theorem dX3_lower_36 : decode cX3_lower 36 = .ok (.aload 7, 2) := by decide +kernel
theorem dX3_lower_38 : decode cX3_lower 38 = .ok (.iload 9, 2) := by decide +kernel
theorem dX3_lower_40 : decode cX3_lower 40 = .ok (.iaload, 1) := by decide +kernel
theorem dX3_lower_41 : decode cX3_lower 41 = .ok (.if_icmp .ge 10, 3) := by decide +kernel
theorem dX3_lower_44 : decode cX3_lower 44 = .ok (.aload 7, 2) := by decide +kernel
theorem dX3_lower_46 : decode cX3_lower 46 = .ok (.iload 9, 2) := by decide +kernel
theorem dX3_lower_48 : decode cX3_lower 48 = .ok (.iload 10, 2) := by decide +kernel
theorem dX3_lower_50 : decode cX3_lower 50 = .ok (.iastore, 1) := by decide +kernel
theorem dX3_lower_51 : decode cX3_lower 51 = .ok (.iload 8, 2) := by decide +kernel
theorem dX3_lower_53 : decode cX3_lower 53 = .ok (.iload 4, 2) := by decide +kernel
theorem dX3_lower_55 : decode cX3_lower 55 = .ok (.iadd, 1) := by decide +kernel
theorem dX3_lower_56 : decode cX3_lower 56 = .ok (.istore 8, 2) := by decide +kernel
theorem dX3_lower_58 : decode cX3_lower 58 = .ok (.iinc 9 1, 3) := by decide +kernel
theorem dX3_lower_61 : decode cX3_lower 61 = .ok (.goto (-43), 3) := by decide +kernel
theorem dX3_lower_64 : decode cX3_lower 64 = .ok (.return_, 1) := by decide +kernel
theorem dX3_fill_0 : decode cX3_fill 0 = .ok (.iconst 0, 1) := by decide +kernel
theorem dX3_fill_1 : decode cX3_fill 1 = .ok (.istore_n 3, 1) := by decide +kernel
theorem dX3_fill_2 : decode cX3_fill 2 = .ok (.iload_n 3, 1) := by decide +kernel
theorem dX3_fill_3 : decode cX3_fill 3 = .ok (.iload_n 1, 1) := by decide +kernel
theorem dX3_fill_4 : decode cX3_fill 4 = .ok (.if_icmp .ge 13, 3) := by decide +kernel
theorem dX3_fill_7 : decode cX3_fill 7 = .ok (.aload_n 0, 1) := by decide +kernel
theorem dX3_fill_8 : decode cX3_fill 8 = .ok (.iload_n 3, 1) := by decide +kernel
theorem dX3_fill_9 : decode cX3_fill 9 = .ok (.iload_n 2, 1) := by decide +kernel
theorem dX3_fill_10 : decode cX3_fill 10 = .ok (.iastore, 1) := by decide +kernel
theorem dX3_fill_11 : decode cX3_fill 11 = .ok (.iinc 3 1, 3) := by decide +kernel
theorem dX3_fill_14 : decode cX3_fill 14 = .ok (.goto (-12), 3) := by decide +kernel
theorem dX3_fill_17 : decode cX3_fill 17 = .ok (.return_, 1) := by decide +kernel
theorem dX3_measure_0 : decode cX3_measure 0 = .ok (.aload_n 0, 1) := by decide +kernel
theorem dX3_measure_1 : decode cX3_measure 1 = .ok (.getfield 53, 3) := by decide +kernel
theorem dX3_measure_4 : decode cX3_measure 4 = .ok (.iconst 0, 1) := by decide +kernel
theorem dX3_measure_5 : decode cX3_measure 5 = .ok (.iconst 0, 1) := by decide +kernel
theorem dX3_measure_6 : decode cX3_measure 6 = .ok (.iastore, 1) := by decide +kernel
theorem dX3_measure_7 : decode cX3_measure 7 = .ok (.iconst 0, 1) := by decide +kernel
theorem dX3_measure_8 : decode cX3_measure 8 = .ok (.istore_n 2, 1) := by decide +kernel
theorem dX3_measure_9 : decode cX3_measure 9 = .ok (.iload_n 2, 1) := by decide +kernel
theorem dX3_measure_10 : decode cX3_measure 10 = .ok (.aload_n 0, 1) := by decide +kernel
theorem dX3_measure_11 : decode cX3_measure 11 = .ok (.getfield 21, 3) := by decide +kernel
theorem dX3_measure_14 : decode cX3_measure 14 = .ok (.getfield 136, 3) := by decide +kernel
theorem dX3_measure_17 : decode cX3_measure 17 = .ok (.if_icmp .ge 113, 3) := by decide +kernel
theorem dX3_measure_20 : decode cX3_measure 20 = .ok (.aload_n 0, 1) := by decide +kernel
theorem dX3_measure_21 : decode cX3_measure 21 = .ok (.iload_n 2, 1) := by decide +kernel
theorem dX3_measure_22 : decode cX3_measure 22 = .ok (.iload_n 1, 1) := by decide +kernel
theorem dX3_measure_23 : decode cX3_measure 23 = .ok (.invokevirtual 59, 3) := by decide +kernel
theorem dX3_measure_26 : decode cX3_measure 26 = .ok (.aload_n 0, 1) := by decide +kernel
theorem dX3_measure_27 : decode cX3_measure 27 = .ok (.iload_n 2, 1) := by decide +kernel
theorem dX3_measure_28 : decode cX3_measure 28 = .ok (.invokevirtual 63, 3) := by decide +kernel
theorem dX3_measure_31 : decode cX3_measure 31 = .ok (.istore_n 3, 1) := by decide +kernel
theorem dX3_measure_32 : decode cX3_measure 32 = .ok (.iload_n 2, 1) := by decide +kernel
theorem dX3_measure_33 : decode cX3_measure 33 = .ok (.ifCond .ne 15, 3) := by decide +kernel
theorem dX3_measure_36 : decode cX3_measure 36 = .ok (.aload_n 0, 1) := by decide +kernel
theorem dX3_measure_37 : decode cX3_measure 37 = .ok (.getfield 47, 3) := by decide +kernel
theorem dX3_measure_40 : decode cX3_measure 40 = .ok (.iload_n 3, 1) := by decide +kernel
theorem dX3_measure_41 : decode cX3_measure 41 = .ok (.iconst 0, 1) := by decide +kernel
theorem dX3_measure_42 : decode cX3_measure 42 = .ok (.invokestatic 124, 3) := by decide +kernel
theorem dX3_measure_45 : decode cX3_measure 45 = .ok (.goto 12, 3) := by decide +kernel
theorem dX3_measure_48 : decode cX3_measure 48 = .ok (.aload_n 0, 1) := by decide +kernel
theorem dX3_measure_49 : decode cX3_measure 49 = .ok (.iload_n 2, 1) := by decide +kernel
theorem dX3_measure_50 : decode cX3_measure 50 = .ok (.iconst 1, 1) := by decide +kernel
theorem dX3_measure_51 : decode cX3_measure 51 = .ok (.isub, 1) := by decide +kernel
theorem dX3_measure_52 : decode cX3_measure 52 = .ok (.iload_n 2, 1) := by decide +kernel
theorem dX3_measure_53 : decode cX3_measure 53 = .ok (.iconst 0, 1) := by decide +kernel
theorem dX3_measure_54 : decode cX3_measure 54 = .ok (.invokevirtual 137, 3) := by decide +kernel
theorem dX3_measure_57 : decode cX3_measure 57 = .ok (.ldc 99, 2) := by decide +kernel
theorem dX3_measure_59 : decode cX3_measure 59 = .ok (.istore 4, 2) := by decide +kernel
theorem dX3_measure_61 : decode cX3_measure 61 = .ok (.iconst 0, 1) := by decide +kernel
theorem dX3_measure_62 : decode cX3_measure 62 = .ok (.istore 5, 2) := by decide +kernel
theorem dX3_measure_64 : decode cX3_measure 64 = .ok (.iload 5, 2) := by decide +kernel
theorem dX3_measure_66 : decode cX3_measure 66 = .ok (.iload_n 3, 1) := by decide +kernel
theorem dX3_measure_67 : decode cX3_measure 67 = .ok (.if_icmp .ge 47, 3) := by decide +kernel
theorem dX3_measure_70 : decode cX3_measure 70 = .ok (.aload_n 0, 1) := by decide +kernel
theorem dX3_measure_71 : decode cX3_measure 71 = .ok (.getfield 47, 3) := by decide +kernel
theorem dX3_measure_74 : decode cX3_measure 74 = .ok (.iload 5, 2) := by decide +kernel
theorem dX3_measure_76 : decode cX3_measure 76 = .ok (.aload_n 0, 1) := by decide +kernel
theorem dX3_measure_77 : decode cX3_measure 77 = .ok (.getfield 47, 3) := by decide +kernel
theorem dX3_measure_80 : decode cX3_measure 80 = .ok (.iload 5, 2) := by decide +kernel
theorem dX3_measure_82 : decode cX3_measure 82 = .ok (.iaload, 1) := by decide +kernel
theorem dX3_measure_83 : decode cX3_measure 83 = .ok (.aload_n 0, 1) := by decide +kernel
theorem dX3_measure_84 : decode cX3_measure 84 = .ok (.getfield 41, 3) := by decide +kernel
theorem dX3_measure_87 : decode cX3_measure 87 = .ok (.iload 5, 2) := by decide +kernel
theorem dX3_measure_89 : decode cX3_measure 89 = .ok (.iaload, 1) := by decide +kernel
theorem dX3_measure_90 : decode cX3_measure 90 = .ok (.invokestatic 100, 3) := by decide +kernel
theorem dX3_measure_93 : decode cX3_measure 93 = .ok (.iastore, 1) := by decide +kernel
theorem dX3_measure_94 : decode cX3_measure 94 = .ok (.iload 4, 2) := by decide +kernel
theorem dX3_measure_96 : decode cX3_measure 96 = .ok (.aload_n 0, 1) := by decide +kernel
theorem dX3_measure_97 : decode cX3_measure 97 = .ok (.getfield 47, 3) := by decide +kernel
theorem dX3_measure_100 : decode cX3_measure 100 = .ok (.iload 5, 2) := by decide +kernel
theorem dX3_measure_102 : decode cX3_measure 102 = .ok (.iaload, 1) := by decide +kernel
theorem dX3_measure_103 : decode cX3_measure 103 = .ok (.invokestatic 73, 3) := by decide +kernel
theorem dX3_measure_106 : decode cX3_measure 106 = .ok (.istore 4, 2) := by decide +kernel
theorem dX3_measure_108 : decode cX3_measure 108 = .ok (.iinc 5 1, 3) := by decide +kernel
theorem dX3_measure_111 : decode cX3_measure 111 = .ok (.goto (-47), 3) := by decide +kernel
theorem dX3_measure_114 : decode cX3_measure 114 = .ok (.aload_n 0, 1) := by decide +kernel
theorem dX3_measure_115 : decode cX3_measure 115 = .ok (.getfield 53, 3) := by decide +kernel
theorem dX3_measure_118 : decode cX3_measure 118 = .ok (.iload_n 2, 1) := by decide +kernel
theorem dX3_measure_119 : decode cX3_measure 119 = .ok (.iconst 1, 1) := by decide +kernel
theorem dX3_measure_120 : decode cX3_measure 120 = .ok (.iadd, 1) := by decide +kernel
theorem dX3_measure_121 : decode cX3_measure 121 = .ok (.iload 4, 2) := by decide +kernel
theorem dX3_measure_123 : decode cX3_measure 123 = .ok (.iastore, 1) := by decide +kernel
theorem dX3_measure_124 : decode cX3_measure 124 = .ok (.iinc 2 1, 3) := by decide +kernel
theorem dX3_measure_127 : decode cX3_measure 127 = .ok (.goto (-118), 3) := by decide +kernel
theorem dX3_measure_130 : decode cX3_measure 130 = .ok (.return_, 1) := by decide +kernel
theorem dX3_needed_0 : decode cX3_needed 0 = .ok (.iload_n 1, 1) := by decide +kernel
theorem dX3_needed_1 : decode cX3_needed 1 = .ok (.ifCond .lt 23, 3) := by decide +kernel
theorem dX3_needed_4 : decode cX3_needed 4 = .ok (.iload_n 1, 1) := by decide +kernel
theorem dX3_needed_5 : decode cX3_needed 5 = .ok (.aload_n 0, 1) := by decide +kernel
theorem dX3_needed_6 : decode cX3_needed 6 = .ok (.getfield 21, 3) := by decide +kernel
theorem dX3_needed_9 : decode cX3_needed 9 = .ok (.getfield 136, 3) := by decide +kernel
theorem dX3_needed_12 : decode cX3_needed 12 = .ok (.if_icmp .gt 12, 3) := by decide +kernel
theorem dX3_needed_15 : decode cX3_needed 15 = .ok (.aload_n 0, 1) := by decide +kernel
theorem dX3_needed_16 : decode cX3_needed 16 = .ok (.getfield 53, 3) := by decide +kernel
theorem dX3_needed_19 : decode cX3_needed 19 = .ok (.iload_n 1, 1) := by decide +kernel
theorem dX3_needed_20 : decode cX3_needed 20 = .ok (.iaload, 1) := by decide +kernel
theorem dX3_needed_21 : decode cX3_needed 21 = .ok (.goto 5, 3) := by decide +kernel
theorem dX3_needed_24 : decode cX3_needed 24 = .ok (.ldc 99, 2) := by decide +kernel
theorem dX3_needed_26 : decode cX3_needed 26 = .ok (.ireturn, 1) := by decide +kernel
theorem dX3_chooseFirst_0 : decode cX3_chooseFirst 0 = .ok (.aload_n 0, 1) := by decide +kernel
theorem dX3_chooseFirst_1 : decode cX3_chooseFirst 1 = .ok (.iconst 0, 1) := by decide +kernel
theorem dX3_chooseFirst_2 : decode cX3_chooseFirst 2 = .ok (.putfield 25, 3) := by decide +kernel
theorem dX3_chooseFirst_5 : decode cX3_chooseFirst 5 = .ok (.iconst 0, 1) := by decide +kernel
theorem dX3_chooseFirst_6 : decode cX3_chooseFirst 6 = .ok (.istore_n 1, 1) := by decide +kernel
theorem dX3_chooseFirst_7 : decode cX3_chooseFirst 7 = .ok (.iload_n 1, 1) := by decide +kernel
theorem dX3_chooseFirst_8 : decode cX3_chooseFirst 8 = .ok (.aload_n 0, 1) := by decide +kernel
theorem dX3_chooseFirst_9 : decode cX3_chooseFirst 9 = .ok (.getfield 21, 3) := by decide +kernel
theorem dX3_chooseFirst_12 : decode cX3_chooseFirst 12 = .ok (.getfield 136, 3) := by decide +kernel
theorem dX3_chooseFirst_15 : decode cX3_chooseFirst 15 = .ok (.if_icmp .ge 47, 3) := by decide +kernel
theorem dX3_chooseFirst_18 : decode cX3_chooseFirst 18 = .ok (.aload_n 0, 1) := by decide +kernel
theorem dX3_chooseFirst_19 : decode cX3_chooseFirst 19 = .ok (.iload_n 1, 1) := by decide +kernel
theorem dX3_chooseFirst_20 : decode cX3_chooseFirst 20 = .ok (.invokevirtual 141, 3) := by decide +kernel
theorem dX3_chooseFirst_23 : decode cX3_chooseFirst 23 = .ok (.istore_n 2, 1) := by decide +kernel
theorem dX3_chooseFirst_24 : decode cX3_chooseFirst 24 = .ok (.iload_n 1, 1) := by decide +kernel
theorem dX3_chooseFirst_25 : decode cX3_chooseFirst 25 = .ok (.ifCond .ne 15, 3) := by decide +kernel
theorem dX3_chooseFirst_28 : decode cX3_chooseFirst 28 = .ok (.aload_n 0, 1) := by decide +kernel
theorem dX3_chooseFirst_29 : decode cX3_chooseFirst 29 = .ok (.aload_n 0, 1) := by decide +kernel
theorem dX3_chooseFirst_30 : decode cX3_chooseFirst 30 = .ok (.getfield 38, 3) := by decide +kernel
theorem dX3_chooseFirst_33 : decode cX3_chooseFirst 33 = .ok (.iconst 0, 1) := by decide +kernel
theorem dX3_chooseFirst_34 : decode cX3_chooseFirst 34 = .ok (.aaload, 1) := by decide +kernel
theorem dX3_chooseFirst_35 : decode cX3_chooseFirst 35 = .ok (.iload_n 2, 1) := by decide +kernel
theorem dX3_chooseFirst_36 : decode cX3_chooseFirst 36 = .ok (.iaload, 1) := by decide +kernel
theorem dX3_chooseFirst_37 : decode cX3_chooseFirst 37 = .ok (.putfield 25, 3) := by decide +kernel
theorem dX3_chooseFirst_40 : decode cX3_chooseFirst 40 = .ok (.aload_n 0, 1) := by decide +kernel
theorem dX3_chooseFirst_41 : decode cX3_chooseFirst 41 = .ok (.getfield 25, 3) := by decide +kernel
theorem dX3_chooseFirst_44 : decode cX3_chooseFirst 44 = .ok (.ldc 99, 2) := by decide +kernel
theorem dX3_chooseFirst_46 : decode cX3_chooseFirst 46 = .ok (.if_icmp .lt 4, 3) := by decide +kernel
theorem dX3_chooseFirst_49 : decode cX3_chooseFirst 49 = .ok (.return_, 1) := by decide +kernel
theorem dX3_chooseFirst_50 : decode cX3_chooseFirst 50 = .ok (.aload_n 0, 1) := by decide +kernel
theorem dX3_chooseFirst_51 : decode cX3_chooseFirst 51 = .ok (.iload_n 1, 1) := by decide +kernel
theorem dX3_chooseFirst_52 : decode cX3_chooseFirst 52 = .ok (.iload_n 2, 1) := by decide +kernel
theorem dX3_chooseFirst_53 : decode cX3_chooseFirst 53 = .ok (.invokevirtual 144, 3) := by decide +kernel
theorem dX3_chooseFirst_56 : decode cX3_chooseFirst 56 = .ok (.iinc 1 1, 3) := by decide +kernel
theorem dX3_chooseFirst_59 : decode cX3_chooseFirst 59 = .ok (.goto (-52), 3) := by decide +kernel
theorem dX3_chooseFirst_62 : decode cX3_chooseFirst 62 = .ok (.return_, 1) := by decide +kernel
theorem dX3_findCosts_0 : decode cX3_findCosts 0 = .ok (.aload_n 0, 1) := by decide +kernel
theorem dX3_findCosts_1 : decode cX3_findCosts 1 = .ok (.getfield 21, 3) := by decide +kernel
theorem dX3_findCosts_4 : decode cX3_findCosts 4 = .ok (.getfield 136, 3) := by decide +kernel
theorem dX3_findCosts_7 : decode cX3_findCosts 7 = .ok (.iconst 1, 1) := by decide +kernel
theorem dX3_findCosts_8 : decode cX3_findCosts 8 = .ok (.isub, 1) := by decide +kernel
theorem dX3_findCosts_9 : decode cX3_findCosts 9 = .ok (.istore_n 1, 1) := by decide +kernel
theorem dX3_findCosts_10 : decode cX3_findCosts 10 = .ok (.iload_n 1, 1) := by decide +kernel
theorem dX3_findCosts_11 : decode cX3_findCosts 11 = .ok (.ifCond .lt 112, 3) := by decide +kernel
theorem dX3_findCosts_14 : decode cX3_findCosts 14 = .ok (.aload_n 0, 1) := by decide +kernel
theorem dX3_findCosts_15 : decode cX3_findCosts 15 = .ok (.iload_n 1, 1) := by decide +kernel
theorem dX3_findCosts_16 : decode cX3_findCosts 16 = .ok (.aload_n 0, 1) := by decide +kernel
theorem dX3_findCosts_17 : decode cX3_findCosts 17 = .ok (.getfield 21, 3) := by decide +kernel
theorem dX3_findCosts_20 : decode cX3_findCosts 20 = .ok (.getfield 147, 3) := by decide +kernel
theorem dX3_findCosts_23 : decode cX3_findCosts 23 = .ok (.invokevirtual 59, 3) := by decide +kernel
theorem dX3_findCosts_26 : decode cX3_findCosts 26 = .ok (.aload_n 0, 1) := by decide +kernel
theorem dX3_findCosts_27 : decode cX3_findCosts 27 = .ok (.iload_n 1, 1) := by decide +kernel
theorem dX3_findCosts_28 : decode cX3_findCosts 28 = .ok (.invokevirtual 63, 3) := by decide +kernel
theorem dX3_findCosts_31 : decode cX3_findCosts 31 = .ok (.istore_n 2, 1) := by decide +kernel
theorem dX3_findCosts_32 : decode cX3_findCosts 32 = .ok (.iload_n 1, 1) := by decide +kernel
theorem dX3_findCosts_33 : decode cX3_findCosts 33 = .ok (.aload_n 0, 1) := by decide +kernel
theorem dX3_findCosts_34 : decode cX3_findCosts 34 = .ok (.getfield 21, 3) := by decide +kernel
theorem dX3_findCosts_37 : decode cX3_findCosts 37 = .ok (.getfield 136, 3) := by decide +kernel
theorem dX3_findCosts_40 : decode cX3_findCosts 40 = .ok (.iconst 1, 1) := by decide +kernel
theorem dX3_findCosts_41 : decode cX3_findCosts 41 = .ok (.isub, 1) := by decide +kernel
theorem dX3_findCosts_42 : decode cX3_findCosts 42 = .ok (.if_icmp .ne 15, 3) := by decide +kernel
theorem dX3_findCosts_45 : decode cX3_findCosts 45 = .ok (.aload_n 0, 1) := by decide +kernel
theorem dX3_findCosts_46 : decode cX3_findCosts 46 = .ok (.getfield 47, 3) := by decide +kernel
theorem dX3_findCosts_49 : decode cX3_findCosts 49 = .ok (.iload_n 2, 1) := by decide +kernel
theorem dX3_findCosts_50 : decode cX3_findCosts 50 = .ok (.iconst 0, 1) := by decide +kernel
theorem dX3_findCosts_51 : decode cX3_findCosts 51 = .ok (.invokestatic 124, 3) := by decide +kernel
theorem dX3_findCosts_54 : decode cX3_findCosts 54 = .ok (.goto 12, 3) := by decide +kernel
theorem dX3_findCosts_57 : decode cX3_findCosts 57 = .ok (.aload_n 0, 1) := by decide +kernel
theorem dX3_findCosts_58 : decode cX3_findCosts 58 = .ok (.iload_n 1, 1) := by decide +kernel
theorem dX3_findCosts_59 : decode cX3_findCosts 59 = .ok (.iconst 1, 1) := by decide +kernel
theorem dX3_findCosts_60 : decode cX3_findCosts 60 = .ok (.iadd, 1) := by decide +kernel
theorem dX3_findCosts_61 : decode cX3_findCosts 61 = .ok (.iload_n 1, 1) := by decide +kernel
theorem dX3_findCosts_62 : decode cX3_findCosts 62 = .ok (.iconst 1, 1) := by decide +kernel
theorem dX3_findCosts_63 : decode cX3_findCosts 63 = .ok (.invokevirtual 137, 3) := by decide +kernel
theorem dX3_findCosts_66 : decode cX3_findCosts 66 = .ok (.iconst 0, 1) := by decide +kernel
theorem dX3_findCosts_67 : decode cX3_findCosts 67 = .ok (.istore_n 3, 1) := by decide +kernel
theorem dX3_findCosts_68 : decode cX3_findCosts 68 = .ok (.iload_n 3, 1) := by decide +kernel
theorem dX3_findCosts_69 : decode cX3_findCosts 69 = .ok (.iload_n 2, 1) := by decide +kernel
theorem dX3_findCosts_70 : decode cX3_findCosts 70 = .ok (.if_icmp .ge 47, 3) := by decide +kernel
theorem dX3_findCosts_73 : decode cX3_findCosts 73 = .ok (.aload_n 0, 1) := by decide +kernel
theorem dX3_findCosts_74 : decode cX3_findCosts 74 = .ok (.getfield 41, 3) := by decide +kernel
theorem dX3_findCosts_77 : decode cX3_findCosts 77 = .ok (.iload_n 3, 1) := by decide +kernel
theorem dX3_findCosts_78 : decode cX3_findCosts 78 = .ok (.iaload, 1) := by decide +kernel
theorem dX3_findCosts_79 : decode cX3_findCosts 79 = .ok (.aload_n 0, 1) := by decide +kernel
theorem dX3_findCosts_80 : decode cX3_findCosts 80 = .ok (.getfield 21, 3) := by decide +kernel
theorem dX3_findCosts_83 : decode cX3_findCosts 83 = .ok (.getfield 67, 3) := by decide +kernel
theorem dX3_findCosts_86 : decode cX3_findCosts 86 = .ok (.if_icmp .le 11, 3) := by decide +kernel
theorem dX3_findCosts_89 : decode cX3_findCosts 89 = .ok (.aload_n 0, 1) := by decide +kernel
theorem dX3_findCosts_90 : decode cX3_findCosts 90 = .ok (.getfield 47, 3) := by decide +kernel
theorem dX3_findCosts_93 : decode cX3_findCosts 93 = .ok (.iload_n 3, 1) := by decide +kernel
theorem dX3_findCosts_94 : decode cX3_findCosts 94 = .ok (.ldc 99, 2) := by decide +kernel
theorem dX3_findCosts_96 : decode cX3_findCosts 96 = .ok (.iastore, 1) := by decide +kernel
theorem dX3_findCosts_97 : decode cX3_findCosts 97 = .ok (.aload_n 0, 1) := by decide +kernel
theorem dX3_findCosts_98 : decode cX3_findCosts 98 = .ok (.getfield 38, 3) := by decide +kernel
theorem dX3_findCosts_101 : decode cX3_findCosts 101 = .ok (.iload_n 1, 1) := by decide +kernel
theorem dX3_findCosts_102 : decode cX3_findCosts 102 = .ok (.aaload, 1) := by decide +kernel
theorem dX3_findCosts_103 : decode cX3_findCosts 103 = .ok (.iload_n 3, 1) := by decide +kernel
theorem dX3_findCosts_104 : decode cX3_findCosts 104 = .ok (.aload_n 0, 1) := by decide +kernel
theorem dX3_findCosts_105 : decode cX3_findCosts 105 = .ok (.getfield 47, 3) := by decide +kernel
theorem dX3_findCosts_108 : decode cX3_findCosts 108 = .ok (.iload_n 3, 1) := by decide +kernel
theorem dX3_findCosts_109 : decode cX3_findCosts 109 = .ok (.iaload, 1) := by decide +kernel
theorem dX3_findCosts_110 : decode cX3_findCosts 110 = .ok (.iastore, 1) := by decide +kernel
theorem dX3_findCosts_111 : decode cX3_findCosts 111 = .ok (.iinc 3 1, 3) := by decide +kernel
theorem dX3_findCosts_114 : decode cX3_findCosts 114 = .ok (.goto (-46), 3) := by decide +kernel
theorem dX3_findCosts_117 : decode cX3_findCosts 117 = .ok (.iinc 1 (-1), 3) := by decide +kernel
theorem dX3_findCosts_120 : decode cX3_findCosts 120 = .ok (.goto (-110), 3) := by decide +kernel
theorem dX3_findCosts_123 : decode cX3_findCosts 123 = .ok (.return_, 1) := by decide +kernel
theorem dX3_firstBest_0 : decode cX3_firstBest 0 = .ok (.iconst 1, 1) := by decide +kernel
theorem dX3_firstBest_1 : decode cX3_firstBest 1 = .ok (.istore_n 2, 1) := by decide +kernel
theorem dX3_firstBest_2 : decode cX3_firstBest 2 = .ok (.aload_n 0, 1) := by decide +kernel
theorem dX3_firstBest_3 : decode cX3_firstBest 3 = .ok (.getfield 50, 3) := by decide +kernel
theorem dX3_firstBest_6 : decode cX3_firstBest 6 = .ok (.iconst 0, 1) := by decide +kernel
theorem dX3_firstBest_7 : decode cX3_firstBest 7 = .ok (.iconst 0, 1) := by decide +kernel
theorem dX3_firstBest_8 : decode cX3_firstBest 8 = .ok (.iastore, 1) := by decide +kernel
theorem dX3_firstBest_9 : decode cX3_firstBest 9 = .ok (.iconst 0, 1) := by decide +kernel
theorem dX3_firstBest_10 : decode cX3_firstBest 10 = .ok (.istore_n 3, 1) := by decide +kernel
theorem dX3_firstBest_11 : decode cX3_firstBest 11 = .ok (.iload_n 3, 1) := by decide +kernel
theorem dX3_firstBest_12 : decode cX3_firstBest 12 = .ok (.iconst 4, 1) := by decide +kernel
theorem dX3_firstBest_13 : decode cX3_firstBest 13 = .ok (.if_icmp .ge 96, 3) := by decide +kernel
theorem dX3_firstBest_16 : decode cX3_firstBest 16 = .ok (.iload_n 1, 1) := by decide +kernel
theorem dX3_firstBest_17 : decode cX3_firstBest 17 = .ok (.iconst 4, 1) := by decide +kernel
theorem dX3_firstBest_18 : decode cX3_firstBest 18 = .ok (.imul, 1) := by decide +kernel
theorem dX3_firstBest_19 : decode cX3_firstBest 19 = .ok (.iload_n 3, 1) := by decide +kernel
theorem dX3_firstBest_20 : decode cX3_firstBest 20 = .ok (.iadd, 1) := by decide +kernel
theorem dX3_firstBest_21 : decode cX3_firstBest 21 = .ok (.istore 4, 2) := by decide +kernel
theorem dX3_firstBest_23 : decode cX3_firstBest 23 = .ok (.iconst 0, 1) := by decide +kernel
theorem dX3_firstBest_24 : decode cX3_firstBest 24 = .ok (.istore 5, 2) := by decide +kernel
theorem dX3_firstBest_26 : decode cX3_firstBest 26 = .ok (.iload 5, 2) := by decide +kernel
theorem dX3_firstBest_28 : decode cX3_firstBest 28 = .ok (.aload_n 0, 1) := by decide +kernel
theorem dX3_firstBest_29 : decode cX3_firstBest 29 = .ok (.getfield 34, 3) := by decide +kernel
theorem dX3_firstBest_32 : decode cX3_firstBest 32 = .ok (.iload 4, 2) := by decide +kernel
theorem dX3_firstBest_34 : decode cX3_firstBest 34 = .ok (.iaload, 1) := by decide +kernel
theorem dX3_firstBest_35 : decode cX3_firstBest 35 = .ok (.if_icmp .ge 51, 3) := by decide +kernel
theorem dX3_firstBest_38 : decode cX3_firstBest 38 = .ok (.aload_n 0, 1) := by decide +kernel
theorem dX3_firstBest_39 : decode cX3_firstBest 39 = .ok (.getfield 44, 3) := by decide +kernel
theorem dX3_firstBest_42 : decode cX3_firstBest 42 = .ok (.iload 5, 2) := by decide +kernel
theorem dX3_firstBest_44 : decode cX3_firstBest 44 = .ok (.iload_n 1, 1) := by decide +kernel
theorem dX3_firstBest_45 : decode cX3_firstBest 45 = .ok (.ifCond .ne 7, 3) := by decide +kernel
theorem dX3_firstBest_48 : decode cX3_firstBest 48 = .ok (.iconst 0, 1) := by decide +kernel
theorem dX3_firstBest_49 : decode cX3_firstBest 49 = .ok (.goto 30, 3) := by decide +kernel
theorem dX3_firstBest_52 : decode cX3_firstBest 52 = .ok (.aload_n 0, 1) := by decide +kernel
theorem dX3_firstBest_53 : decode cX3_firstBest 53 = .ok (.iload_n 3, 1) := by decide +kernel
theorem dX3_firstBest_54 : decode cX3_firstBest 54 = .ok (.iload_n 1, 1) := by decide +kernel
theorem dX3_firstBest_55 : decode cX3_firstBest 55 = .ok (.iconst 1, 1) := by decide +kernel
theorem dX3_firstBest_56 : decode cX3_firstBest 56 = .ok (.isub, 1) := by decide +kernel
theorem dX3_firstBest_57 : decode cX3_firstBest 57 = .ok (.aload_n 0, 1) := by decide +kernel
theorem dX3_firstBest_58 : decode cX3_firstBest 58 = .ok (.iload_n 1, 1) := by decide +kernel
theorem dX3_firstBest_59 : decode cX3_firstBest 59 = .ok (.iconst 1, 1) := by decide +kernel
theorem dX3_firstBest_60 : decode cX3_firstBest 60 = .ok (.isub, 1) := by decide +kernel
theorem dX3_firstBest_61 : decode cX3_firstBest 61 = .ok (.iload_n 3, 1) := by decide +kernel
theorem dX3_firstBest_62 : decode cX3_firstBest 62 = .ok (.invokevirtual 150, 3) := by decide +kernel
theorem dX3_firstBest_65 : decode cX3_firstBest 65 = .ok (.iload_n 1, 1) := by decide +kernel
theorem dX3_firstBest_66 : decode cX3_firstBest 66 = .ok (.aload_n 0, 1) := by decide +kernel
theorem dX3_firstBest_67 : decode cX3_firstBest 67 = .ok (.getfield 31, 3) := by decide +kernel
theorem dX3_firstBest_70 : decode cX3_firstBest 70 = .ok (.iload 4, 2) := by decide +kernel
theorem dX3_firstBest_72 : decode cX3_firstBest 72 = .ok (.aaload, 1) := by decide +kernel
theorem dX3_firstBest_73 : decode cX3_firstBest 73 = .ok (.iload 5, 2) := by decide +kernel
theorem dX3_firstBest_75 : decode cX3_firstBest 75 = .ok (.iaload, 1) := by decide +kernel
theorem dX3_firstBest_76 : decode cX3_firstBest 76 = .ok (.invokevirtual 128, 3) := by decide +kernel
theorem dX3_firstBest_79 : decode cX3_firstBest 79 = .ok (.iastore, 1) := by decide +kernel
theorem dX3_firstBest_80 : decode cX3_firstBest 80 = .ok (.iinc 5 1, 3) := by decide +kernel
theorem dX3_firstBest_83 : decode cX3_firstBest 83 = .ok (.goto (-57), 3) := by decide +kernel
theorem dX3_firstBest_86 : decode cX3_firstBest 86 = .ok (.aload_n 0, 1) := by decide +kernel
theorem dX3_firstBest_87 : decode cX3_firstBest 87 = .ok (.aload_n 0, 1) := by decide +kernel
theorem dX3_firstBest_88 : decode cX3_firstBest 88 = .ok (.getfield 50, 3) := by decide +kernel
theorem dX3_firstBest_91 : decode cX3_firstBest 91 = .ok (.iload_n 2, 1) := by decide +kernel
theorem dX3_firstBest_92 : decode cX3_firstBest 92 = .ok (.aload_n 0, 1) := by decide +kernel
theorem dX3_firstBest_93 : decode cX3_firstBest 93 = .ok (.getfield 34, 3) := by decide +kernel
theorem dX3_firstBest_96 : decode cX3_firstBest 96 = .ok (.iload 4, 2) := by decide +kernel
theorem dX3_firstBest_98 : decode cX3_firstBest 98 = .ok (.iaload, 1) := by decide +kernel
theorem dX3_firstBest_99 : decode cX3_firstBest 99 = .ok (.invokevirtual 89, 3) := by decide +kernel
theorem dX3_firstBest_102 : decode cX3_firstBest 102 = .ok (.istore_n 2, 1) := by decide +kernel
theorem dX3_firstBest_103 : decode cX3_firstBest 103 = .ok (.iinc 3 1, 3) := by decide +kernel
theorem dX3_firstBest_106 : decode cX3_firstBest 106 = .ok (.goto (-95), 3) := by decide +kernel
theorem dX3_firstBest_109 : decode cX3_firstBest 109 = .ok (.iconst 0, 1) := by decide +kernel
theorem dX3_firstBest_110 : decode cX3_firstBest 110 = .ok (.istore_n 3, 1) := by decide +kernel
theorem dX3_firstBest_111 : decode cX3_firstBest 111 = .ok (.iconst 1, 1) := by decide +kernel
theorem dX3_firstBest_112 : decode cX3_firstBest 112 = .ok (.istore 4, 2) := by decide +kernel
theorem dX3_firstBest_114 : decode cX3_firstBest 114 = .ok (.iload 4, 2) := by decide +kernel
theorem dX3_firstBest_116 : decode cX3_firstBest 116 = .ok (.iload_n 2, 1) := by decide +kernel
theorem dX3_firstBest_117 : decode cX3_firstBest 117 = .ok (.if_icmp .ge 47, 3) := by decide +kernel
theorem dX3_firstBest_120 : decode cX3_firstBest 120 = .ok (.aload_n 0, 1) := by decide +kernel
theorem dX3_firstBest_121 : decode cX3_firstBest 121 = .ok (.getfield 50, 3) := by decide +kernel
theorem dX3_firstBest_124 : decode cX3_firstBest 124 = .ok (.iload 4, 2) := by decide +kernel
theorem dX3_firstBest_126 : decode cX3_firstBest 126 = .ok (.iaload, 1) := by decide +kernel
theorem dX3_firstBest_127 : decode cX3_firstBest 127 = .ok (.aload_n 0, 1) := by decide +kernel
theorem dX3_firstBest_128 : decode cX3_firstBest 128 = .ok (.getfield 38, 3) := by decide +kernel
theorem dX3_firstBest_131 : decode cX3_firstBest 131 = .ok (.iload_n 1, 1) := by decide +kernel
theorem dX3_firstBest_132 : decode cX3_firstBest 132 = .ok (.aaload, 1) := by decide +kernel
theorem dX3_firstBest_133 : decode cX3_firstBest 133 = .ok (.iload 4, 2) := by decide +kernel
theorem dX3_firstBest_135 : decode cX3_firstBest 135 = .ok (.iaload, 1) := by decide +kernel
theorem dX3_firstBest_136 : decode cX3_firstBest 136 = .ok (.iadd, 1) := by decide +kernel
theorem dX3_firstBest_137 : decode cX3_firstBest 137 = .ok (.aload_n 0, 1) := by decide +kernel
theorem dX3_firstBest_138 : decode cX3_firstBest 138 = .ok (.getfield 50, 3) := by decide +kernel
theorem dX3_firstBest_141 : decode cX3_firstBest 141 = .ok (.iload_n 3, 1) := by decide +kernel
theorem dX3_firstBest_142 : decode cX3_firstBest 142 = .ok (.iaload, 1) := by decide +kernel
theorem dX3_firstBest_143 : decode cX3_firstBest 143 = .ok (.aload_n 0, 1) := by decide +kernel
theorem dX3_firstBest_144 : decode cX3_firstBest 144 = .ok (.getfield 38, 3) := by decide +kernel
theorem dX3_firstBest_147 : decode cX3_firstBest 147 = .ok (.iload_n 1, 1) := by decide +kernel
theorem dX3_firstBest_148 : decode cX3_firstBest 148 = .ok (.aaload, 1) := by decide +kernel
theorem dX3_firstBest_149 : decode cX3_firstBest 149 = .ok (.iload_n 3, 1) := by decide +kernel
theorem dX3_firstBest_150 : decode cX3_firstBest 150 = .ok (.iaload, 1) := by decide +kernel
theorem dX3_firstBest_151 : decode cX3_firstBest 151 = .ok (.iadd, 1) := by decide +kernel
theorem dX3_firstBest_152 : decode cX3_firstBest 152 = .ok (.if_icmp .ge 6, 3) := by decide +kernel
theorem dX3_firstBest_155 : decode cX3_firstBest 155 = .ok (.iload 4, 2) := by decide +kernel
theorem dX3_firstBest_157 : decode cX3_firstBest 157 = .ok (.istore_n 3, 1) := by decide +kernel
theorem dX3_firstBest_158 : decode cX3_firstBest 158 = .ok (.iinc 4 1, 3) := by decide +kernel
theorem dX3_firstBest_161 : decode cX3_firstBest 161 = .ok (.goto (-47), 3) := by decide +kernel
theorem dX3_firstBest_164 : decode cX3_firstBest 164 = .ok (.iload_n 3, 1) := by decide +kernel
theorem dX3_firstBest_165 : decode cX3_firstBest 165 = .ok (.ireturn, 1) := by decide +kernel
theorem dX3_choose_0 : decode cX3_choose 0 = .ok (.iload_n 2, 1) := by decide +kernel
theorem dX3_choose_1 : decode cX3_choose 1 = .ok (.istore_n 3, 1) := by decide +kernel
theorem dX3_choose_2 : decode cX3_choose 2 = .ok (.iconst 3, 1) := by decide +kernel
theorem dX3_choose_3 : decode cX3_choose 3 = .ok (.istore 4, 2) := by decide +kernel
theorem dX3_choose_5 : decode cX3_choose 5 = .ok (.iload 4, 2) := by decide +kernel
theorem dX3_choose_7 : decode cX3_choose 7 = .ok (.ifCond .lt 54, 3) := by decide +kernel
theorem dX3_choose_10 : decode cX3_choose 10 = .ok (.iload_n 1, 1) := by decide +kernel
theorem dX3_choose_11 : decode cX3_choose 11 = .ok (.iconst 4, 1) := by decide +kernel
theorem dX3_choose_12 : decode cX3_choose 12 = .ok (.imul, 1) := by decide +kernel
theorem dX3_choose_13 : decode cX3_choose 13 = .ok (.iload 4, 2) := by decide +kernel
theorem dX3_choose_15 : decode cX3_choose 15 = .ok (.iadd, 1) := by decide +kernel
theorem dX3_choose_16 : decode cX3_choose 16 = .ok (.istore 5, 2) := by decide +kernel
theorem dX3_choose_18 : decode cX3_choose 18 = .ok (.aload_n 0, 1) := by decide +kernel
theorem dX3_choose_19 : decode cX3_choose 19 = .ok (.getfield 34, 3) := by decide +kernel
theorem dX3_choose_22 : decode cX3_choose 22 = .ok (.iload 5, 2) := by decide +kernel
theorem dX3_choose_24 : decode cX3_choose 24 = .ok (.iaload, 1) := by decide +kernel
theorem dX3_choose_25 : decode cX3_choose 25 = .ok (.iconst 1, 1) := by decide +kernel
theorem dX3_choose_26 : decode cX3_choose 26 = .ok (.invokestatic 100, 3) := by decide +kernel
theorem dX3_choose_29 : decode cX3_choose 29 = .ok (.istore 6, 2) := by decide +kernel
theorem dX3_choose_31 : decode cX3_choose 31 = .ok (.aload_n 0, 1) := by decide +kernel
theorem dX3_choose_32 : decode cX3_choose 32 = .ok (.getfield 56, 3) := by decide +kernel
theorem dX3_choose_35 : decode cX3_choose 35 = .ok (.iload 5, 2) := by decide +kernel
theorem dX3_choose_37 : decode cX3_choose 37 = .ok (.aload_n 0, 1) := by decide +kernel
theorem dX3_choose_38 : decode cX3_choose 38 = .ok (.getfield 31, 3) := by decide +kernel
theorem dX3_choose_41 : decode cX3_choose 41 = .ok (.iload 5, 2) := by decide +kernel
theorem dX3_choose_43 : decode cX3_choose 43 = .ok (.aaload, 1) := by decide +kernel
theorem dX3_choose_44 : decode cX3_choose 44 = .ok (.iload_n 3, 1) := by decide +kernel
theorem dX3_choose_45 : decode cX3_choose 45 = .ok (.iload 6, 2) := by decide +kernel
theorem dX3_choose_47 : decode cX3_choose 47 = .ok (.irem, 1) := by decide +kernel
theorem dX3_choose_48 : decode cX3_choose 48 = .ok (.iaload, 1) := by decide +kernel
theorem dX3_choose_49 : decode cX3_choose 49 = .ok (.iastore, 1) := by decide +kernel
theorem dX3_choose_50 : decode cX3_choose 50 = .ok (.iload_n 3, 1) := by decide +kernel
theorem dX3_choose_51 : decode cX3_choose 51 = .ok (.iload 6, 2) := by decide +kernel
theorem dX3_choose_53 : decode cX3_choose 53 = .ok (.idiv, 1) := by decide +kernel
theorem dX3_choose_54 : decode cX3_choose 54 = .ok (.istore_n 3, 1) := by decide +kernel
theorem dX3_choose_55 : decode cX3_choose 55 = .ok (.iinc 4 (-1), 3) := by decide +kernel
theorem dX3_choose_58 : decode cX3_choose 58 = .ok (.goto (-53), 3) := by decide +kernel
theorem dX3_choose_61 : decode cX3_choose 61 = .ok (.return_, 1) := by decide +kernel
theorem dX3_handIn_0 : decode cX3_handIn 0 = .ok (.aload_n 0, 1) := by decide +kernel
theorem dX3_handIn_1 : decode cX3_handIn 1 = .ok (.getfield 56, 3) := by decide +kernel
theorem dX3_handIn_4 : decode cX3_handIn 4 = .ok (.iload_n 1, 1) := by decide +kernel
theorem dX3_handIn_5 : decode cX3_handIn 5 = .ok (.iconst 4, 1) := by decide +kernel
theorem dX3_handIn_6 : decode cX3_handIn 6 = .ok (.imul, 1) := by decide +kernel
theorem dX3_handIn_7 : decode cX3_handIn 7 = .ok (.iload_n 2, 1) := by decide +kernel
theorem dX3_handIn_8 : decode cX3_handIn 8 = .ok (.iadd, 1) := by decide +kernel
theorem dX3_handIn_9 : decode cX3_handIn 9 = .ok (.iaload, 1) := by decide +kernel
theorem dX3_handIn_10 : decode cX3_handIn 10 = .ok (.ireturn, 1) := by decide +kernel
theorem dX3_handsThatPlay_0 : decode cX3_handsThatPlay 0 = .ok (.iconst 0, 1) := by decide +kernel
theorem dX3_handsThatPlay_1 : decode cX3_handsThatPlay 1 = .ok (.istore_n 1, 1) := by decide +kernel
theorem dX3_handsThatPlay_2 : decode cX3_handsThatPlay 2 = .ok (.iconst 0, 1) := by decide +kernel
theorem dX3_handsThatPlay_3 : decode cX3_handsThatPlay 3 = .ok (.istore_n 2, 1) := by decide +kernel
theorem dX3_handsThatPlay_4 : decode cX3_handsThatPlay 4 = .ok (.iload_n 2, 1) := by decide +kernel
theorem dX3_handsThatPlay_5 : decode cX3_handsThatPlay 5 = .ok (.aload_n 0, 1) := by decide +kernel
theorem dX3_handsThatPlay_6 : decode cX3_handsThatPlay 6 = .ok (.getfield 21, 3) := by decide +kernel
theorem dX3_handsThatPlay_9 : decode cX3_handsThatPlay 9 = .ok (.getfield 136, 3) := by decide +kernel
theorem dX3_handsThatPlay_12 : decode cX3_handsThatPlay 12 = .ok (.iconst 4, 1) := by decide +kernel
theorem dX3_handsThatPlay_13 : decode cX3_handsThatPlay 13 = .ok (.imul, 1) := by decide +kernel
theorem dX3_handsThatPlay_14 : decode cX3_handsThatPlay 14 = .ok (.if_icmp .ge 21, 3) := by decide +kernel
theorem dX3_handsThatPlay_17 : decode cX3_handsThatPlay 17 = .ok (.aload_n 0, 1) := by decide +kernel
theorem dX3_handsThatPlay_18 : decode cX3_handsThatPlay 18 = .ok (.getfield 56, 3) := by decide +kernel
theorem dX3_handsThatPlay_21 : decode cX3_handsThatPlay 21 = .ok (.iload_n 2, 1) := by decide +kernel
theorem dX3_handsThatPlay_22 : decode cX3_handsThatPlay 22 = .ok (.iaload, 1) := by decide +kernel
theorem dX3_handsThatPlay_23 : decode cX3_handsThatPlay 23 = .ok (.ifCond .eq 6, 3) := by decide +kernel
theorem dX3_handsThatPlay_26 : decode cX3_handsThatPlay 26 = .ok (.iinc 1 1, 3) := by decide +kernel
theorem dX3_handsThatPlay_29 : decode cX3_handsThatPlay 29 = .ok (.iinc 2 1, 3) := by decide +kernel
theorem dX3_handsThatPlay_32 : decode cX3_handsThatPlay 32 = .ok (.goto (-28), 3) := by decide +kernel
theorem dX3_handsThatPlay_35 : decode cX3_handsThatPlay 35 = .ok (.iload_n 1, 1) := by decide +kernel
theorem dX3_handsThatPlay_36 : decode cX3_handsThatPlay 36 = .ok (.ireturn, 1) := by decide +kernel
theorem dX3_doubledNotes_0 : decode cX3_doubledNotes 0 = .ok (.iconst 0, 1) := by decide +kernel
theorem dX3_doubledNotes_1 : decode cX3_doubledNotes 1 = .ok (.istore_n 1, 1) := by decide +kernel
theorem dX3_doubledNotes_2 : decode cX3_doubledNotes 2 = .ok (.iconst 0, 1) := by decide +kernel
theorem dX3_doubledNotes_3 : decode cX3_doubledNotes 3 = .ok (.istore_n 2, 1) := by decide +kernel
theorem dX3_doubledNotes_4 : decode cX3_doubledNotes 4 = .ok (.iload_n 2, 1) := by decide +kernel
theorem dX3_doubledNotes_5 : decode cX3_doubledNotes 5 = .ok (.aload_n 0, 1) := by decide +kernel
theorem dX3_doubledNotes_6 : decode cX3_doubledNotes 6 = .ok (.getfield 21, 3) := by decide +kernel
theorem dX3_doubledNotes_9 : decode cX3_doubledNotes 9 = .ok (.getfield 136, 3) := by decide +kernel
theorem dX3_doubledNotes_12 : decode cX3_doubledNotes 12 = .ok (.if_icmp .ge 35, 3) := by decide +kernel
theorem dX3_doubledNotes_15 : decode cX3_doubledNotes 15 = .ok (.iconst 0, 1) := by decide +kernel
theorem dX3_doubledNotes_16 : decode cX3_doubledNotes 16 = .ok (.istore_n 3, 1) := by decide +kernel
theorem dX3_doubledNotes_17 : decode cX3_doubledNotes 17 = .ok (.iload_n 3, 1) := by decide +kernel
theorem dX3_doubledNotes_18 : decode cX3_doubledNotes 18 = .ok (.iconst 3, 1) := by decide +kernel
theorem dX3_doubledNotes_19 : decode cX3_doubledNotes 19 = .ok (.if_icmp .ge 22, 3) := by decide +kernel
theorem dX3_doubledNotes_22 : decode cX3_doubledNotes 22 = .ok (.aload_n 0, 1) := by decide +kernel
theorem dX3_doubledNotes_23 : decode cX3_doubledNotes 23 = .ok (.iload_n 2, 1) := by decide +kernel
theorem dX3_doubledNotes_24 : decode cX3_doubledNotes 24 = .ok (.iload_n 3, 1) := by decide +kernel
theorem dX3_doubledNotes_25 : decode cX3_doubledNotes 25 = .ok (.invokevirtual 153, 3) := by decide +kernel
theorem dX3_doubledNotes_28 : decode cX3_doubledNotes 28 = .ok (.iconst 2, 1) := by decide +kernel
theorem dX3_doubledNotes_29 : decode cX3_doubledNotes 29 = .ok (.if_icmp .lt 6, 3) := by decide +kernel
theorem dX3_doubledNotes_32 : decode cX3_doubledNotes 32 = .ok (.iinc 1 1, 3) := by decide +kernel
theorem dX3_doubledNotes_35 : decode cX3_doubledNotes 35 = .ok (.iinc 3 1, 3) := by decide +kernel
theorem dX3_doubledNotes_38 : decode cX3_doubledNotes 38 = .ok (.goto (-21), 3) := by decide +kernel
theorem dX3_doubledNotes_41 : decode cX3_doubledNotes 41 = .ok (.iinc 2 1, 3) := by decide +kernel
theorem dX3_doubledNotes_44 : decode cX3_doubledNotes 44 = .ok (.goto (-40), 3) := by decide +kernel
theorem dX3_doubledNotes_47 : decode cX3_doubledNotes 47 = .ok (.iload_n 1, 1) := by decide +kernel
theorem dX3_doubledNotes_48 : decode cX3_doubledNotes 48 = .ok (.ireturn, 1) := by decide +kernel
theorem dX3_playersOf_0 : decode cX3_playersOf 0 = .ok (.iconst 0, 1) := by decide +kernel
theorem dX3_playersOf_1 : decode cX3_playersOf 1 = .ok (.istore_n 3, 1) := by decide +kernel
theorem dX3_playersOf_2 : decode cX3_playersOf 2 = .ok (.iconst 0, 1) := by decide +kernel
theorem dX3_playersOf_3 : decode cX3_playersOf 3 = .ok (.istore 4, 2) := by decide +kernel
theorem dX3_playersOf_5 : decode cX3_playersOf 5 = .ok (.iload 4, 2) := by decide +kernel
theorem dX3_playersOf_7 : decode cX3_playersOf 7 = .ok (.iconst 4, 1) := by decide +kernel
theorem dX3_playersOf_8 : decode cX3_playersOf 8 = .ok (.if_icmp .ge 23, 3) := by decide +kernel
theorem dX3_playersOf_11 : decode cX3_playersOf 11 = .ok (.iload_n 3, 1) := by decide +kernel
theorem dX3_playersOf_12 : decode cX3_playersOf 12 = .ok (.aload_n 0, 1) := by decide +kernel
theorem dX3_playersOf_13 : decode cX3_playersOf 13 = .ok (.iload_n 1, 1) := by decide +kernel
theorem dX3_playersOf_14 : decode cX3_playersOf 14 = .ok (.iload 4, 2) := by decide +kernel
theorem dX3_playersOf_16 : decode cX3_playersOf 16 = .ok (.invokevirtual 150, 3) := by decide +kernel
theorem dX3_playersOf_19 : decode cX3_playersOf 19 = .ok (.iload_n 2, 1) := by decide +kernel
theorem dX3_playersOf_20 : decode cX3_playersOf 20 = .ok (.ishr, 1) := by decide +kernel
theorem dX3_playersOf_21 : decode cX3_playersOf 21 = .ok (.iconst 1, 1) := by decide +kernel
theorem dX3_playersOf_22 : decode cX3_playersOf 22 = .ok (.iand, 1) := by decide +kernel
theorem dX3_playersOf_23 : decode cX3_playersOf 23 = .ok (.iadd, 1) := by decide +kernel
theorem dX3_playersOf_24 : decode cX3_playersOf 24 = .ok (.istore_n 3, 1) := by decide +kernel
theorem dX3_playersOf_25 : decode cX3_playersOf 25 = .ok (.iinc 4 1, 3) := by decide +kernel
theorem dX3_playersOf_28 : decode cX3_playersOf 28 = .ok (.goto (-23), 3) := by decide +kernel
theorem dX3_playersOf_31 : decode cX3_playersOf 31 = .ok (.iload_n 3, 1) := by decide +kernel
theorem dX3_playersOf_32 : decode cX3_playersOf 32 = .ok (.ireturn, 1) := by decide +kernel
theorem dX3_loudWithout_0 : decode cX3_loudWithout 0 = .ok (.iconst 0, 1) := by decide +kernel
theorem dX3_loudWithout_1 : decode cX3_loudWithout 1 = .ok (.istore 4, 2) := by decide +kernel
theorem dX3_loudWithout_3 : decode cX3_loudWithout 3 = .ok (.iconst 0, 1) := by decide +kernel
theorem dX3_loudWithout_4 : decode cX3_loudWithout 4 = .ok (.istore 5, 2) := by decide +kernel
theorem dX3_loudWithout_6 : decode cX3_loudWithout 6 = .ok (.iload 5, 2) := by decide +kernel
theorem dX3_loudWithout_8 : decode cX3_loudWithout 8 = .ok (.iconst 4, 1) := by decide +kernel
theorem dX3_loudWithout_9 : decode cX3_loudWithout 9 = .ok (.if_icmp .ge 50, 3) := by decide +kernel
theorem dX3_loudWithout_12 : decode cX3_loudWithout 12 = .ok (.aload_n 0, 1) := by decide +kernel
theorem dX3_loudWithout_13 : decode cX3_loudWithout 13 = .ok (.iload_n 1, 1) := by decide +kernel
theorem dX3_loudWithout_14 : decode cX3_loudWithout 14 = .ok (.iload 5, 2) := by decide +kernel
theorem dX3_loudWithout_16 : decode cX3_loudWithout 16 = .ok (.invokevirtual 150, 3) := by decide +kernel
theorem dX3_loudWithout_19 : decode cX3_loudWithout 19 = .ok (.istore 6, 2) := by decide +kernel
theorem dX3_loudWithout_21 : decode cX3_loudWithout 21 = .ok (.iload 5, 2) := by decide +kernel
theorem dX3_loudWithout_23 : decode cX3_loudWithout 23 = .ok (.iload_n 3, 1) := by decide +kernel
theorem dX3_loudWithout_24 : decode cX3_loudWithout 24 = .ok (.if_icmp .eq 29, 3) := by decide +kernel
theorem dX3_loudWithout_27 : decode cX3_loudWithout 27 = .ok (.iload 6, 2) := by decide +kernel
theorem dX3_loudWithout_29 : decode cX3_loudWithout 29 = .ok (.iload_n 2, 1) := by decide +kernel
theorem dX3_loudWithout_30 : decode cX3_loudWithout 30 = .ok (.ishr, 1) := by decide +kernel
theorem dX3_loudWithout_31 : decode cX3_loudWithout 31 = .ok (.iconst 1, 1) := by decide +kernel
theorem dX3_loudWithout_32 : decode cX3_loudWithout 32 = .ok (.iand, 1) := by decide +kernel
theorem dX3_loudWithout_33 : decode cX3_loudWithout 33 = .ok (.iconst 1, 1) := by decide +kernel
theorem dX3_loudWithout_34 : decode cX3_loudWithout 34 = .ok (.if_icmp .ne 19, 3) := by decide +kernel
theorem dX3_loudWithout_37 : decode cX3_loudWithout 37 = .ok (.iload 4, 2) := by decide +kernel
theorem dX3_loudWithout_39 : decode cX3_loudWithout 39 = .ok (.aload_n 0, 1) := by decide +kernel
theorem dX3_loudWithout_40 : decode cX3_loudWithout 40 = .ok (.getfield 12, 3) := by decide +kernel
theorem dX3_loudWithout_43 : decode cX3_loudWithout 43 = .ok (.iload 5, 2) := by decide +kernel
theorem dX3_loudWithout_45 : decode cX3_loudWithout 45 = .ok (.iload 6, 2) := by decide +kernel
theorem dX3_loudWithout_47 : decode cX3_loudWithout 47 = .ok (.invokevirtual 96, 3) := by decide +kernel
theorem dX3_loudWithout_50 : decode cX3_loudWithout 50 = .ok (.iadd, 1) := by decide +kernel
theorem dX3_loudWithout_51 : decode cX3_loudWithout 51 = .ok (.istore 4, 2) := by decide +kernel
theorem dX3_loudWithout_53 : decode cX3_loudWithout 53 = .ok (.iinc 5 1, 3) := by decide +kernel
theorem dX3_loudWithout_56 : decode cX3_loudWithout 56 = .ok (.goto (-50), 3) := by decide +kernel
theorem dX3_loudWithout_59 : decode cX3_loudWithout 59 = .ok (.iload 4, 2) := by decide +kernel
theorem dX3_loudWithout_61 : decode cX3_loudWithout 61 = .ok (.ireturn, 1) := by decide +kernel
theorem dX3_isEvenWithout_0 : decode cX3_isEvenWithout 0 = .ok (.aload_n 0, 1) := by decide +kernel
theorem dX3_isEvenWithout_1 : decode cX3_isEvenWithout 1 = .ok (.getfield 21, 3) := by decide +kernel
theorem dX3_isEvenWithout_4 : decode cX3_isEvenWithout 4 = .ok (.iload_n 1, 1) := by decide +kernel
theorem dX3_isEvenWithout_5 : decode cX3_isEvenWithout 5 = .ok (.invokevirtual 70, 3) := by decide +kernel
theorem dX3_isEvenWithout_8 : decode cX3_isEvenWithout 8 = .ok (.istore_n 3, 1) := by decide +kernel
theorem dX3_isEvenWithout_9 : decode cX3_isEvenWithout 9 = .ok (.iconst 0, 1) := by decide +kernel
theorem dX3_isEvenWithout_10 : decode cX3_isEvenWithout 10 = .ok (.istore 4, 2) := by decide +kernel
theorem dX3_isEvenWithout_12 : decode cX3_isEvenWithout 12 = .ok (.iconst 0, 1) := by decide +kernel
theorem dX3_isEvenWithout_13 : decode cX3_isEvenWithout 13 = .ok (.istore 5, 2) := by decide +kernel
theorem dX3_isEvenWithout_15 : decode cX3_isEvenWithout 15 = .ok (.iload 5, 2) := by decide +kernel
theorem dX3_isEvenWithout_17 : decode cX3_isEvenWithout 17 = .ok (.iload_n 3, 1) := by decide +kernel
theorem dX3_isEvenWithout_18 : decode cX3_isEvenWithout 18 = .ok (.if_icmp .ge 28, 3) := by decide +kernel
theorem dX3_isEvenWithout_21 : decode cX3_isEvenWithout 21 = .ok (.iload 4, 2) := by decide +kernel
theorem dX3_isEvenWithout_23 : decode cX3_isEvenWithout 23 = .ok (.aload_n 0, 1) := by decide +kernel
theorem dX3_isEvenWithout_24 : decode cX3_isEvenWithout 24 = .ok (.iload_n 1, 1) := by decide +kernel
theorem dX3_isEvenWithout_25 : decode cX3_isEvenWithout 25 = .ok (.iload 5, 2) := by decide +kernel
theorem dX3_isEvenWithout_27 : decode cX3_isEvenWithout 27 = .ok (.iload_n 2, 1) := by decide +kernel
theorem dX3_isEvenWithout_28 : decode cX3_isEvenWithout 28 = .ok (.invokevirtual 156, 3) := by decide +kernel
theorem dX3_isEvenWithout_31 : decode cX3_isEvenWithout 31 = .ok (.iload 5, 2) := by decide +kernel
theorem dX3_isEvenWithout_33 : decode cX3_isEvenWithout 33 = .ok (.bipush 8, 2) := by decide +kernel
theorem dX3_isEvenWithout_35 : decode cX3_isEvenWithout 35 = .ok (.imul, 1) := by decide +kernel
theorem dX3_isEvenWithout_36 : decode cX3_isEvenWithout 36 = .ok (.ishl, 1) := by decide +kernel
theorem dX3_isEvenWithout_37 : decode cX3_isEvenWithout 37 = .ok (.ior, 1) := by decide +kernel
theorem dX3_isEvenWithout_38 : decode cX3_isEvenWithout 38 = .ok (.istore 4, 2) := by decide +kernel
theorem dX3_isEvenWithout_40 : decode cX3_isEvenWithout 40 = .ok (.iinc 5 1, 3) := by decide +kernel
theorem dX3_isEvenWithout_43 : decode cX3_isEvenWithout 43 = .ok (.goto (-28), 3) := by decide +kernel
theorem dX3_isEvenWithout_46 : decode cX3_isEvenWithout 46 = .ok (.iload 4, 2) := by decide +kernel
theorem dX3_isEvenWithout_48 : decode cX3_isEvenWithout 48 = .ok (.iload_n 3, 1) := by decide +kernel
theorem dX3_isEvenWithout_49 : decode cX3_isEvenWithout 49 = .ok (.invokestatic 93, 3) := by decide +kernel
theorem dX3_isEvenWithout_52 : decode cX3_isEvenWithout 52 = .ok (.aload_n 0, 1) := by decide +kernel
theorem dX3_isEvenWithout_53 : decode cX3_isEvenWithout 53 = .ok (.getfield 21, 3) := by decide +kernel
theorem dX3_isEvenWithout_56 : decode cX3_isEvenWithout 56 = .ok (.getfield 67, 3) := by decide +kernel
theorem dX3_isEvenWithout_59 : decode cX3_isEvenWithout 59 = .ok (.if_icmp .gt 7, 3) := by decide +kernel
theorem dX3_isEvenWithout_62 : decode cX3_isEvenWithout 62 = .ok (.iconst 1, 1) := by decide +kernel
theorem dX3_isEvenWithout_63 : decode cX3_isEvenWithout 63 = .ok (.goto 4, 3) := by decide +kernel
theorem dX3_isEvenWithout_66 : decode cX3_isEvenWithout 66 = .ok (.iconst 0, 1) := by decide +kernel
theorem dX3_isEvenWithout_67 : decode cX3_isEvenWithout 67 = .ok (.ireturn, 1) := by decide +kernel
theorem dX4_init_0 : decode cX4_init 0 = .ok (.aload_n 0, 1) := by decide +kernel
theorem dX4_init_1 : decode cX4_init 1 = .ok (.invokespecial 1, 3) := by decide +kernel
theorem dX4_init_4 : decode cX4_init 4 = .ok (.aload_n 0, 1) := by decide +kernel
theorem dX4_init_5 : decode cX4_init 5 = .ok (.new 7, 3) := by decide +kernel
theorem dX4_init_8 : decode cX4_init 8 = .ok (.dup, 1) := by decide +kernel
theorem dX4_init_9 : decode cX4_init 9 = .ok (.invokespecial 9, 3) := by decide +kernel
theorem dX4_init_12 : decode cX4_init 12 = .ok (.putfield 10, 3) := by decide +kernel
theorem dX4_init_15 : decode cX4_init 15 = .ok (.aload_n 0, 1) := by decide +kernel
theorem dX4_init_16 : decode cX4_init 16 = .ok (.new 16, 3) := by decide +kernel
theorem dX4_init_19 : decode cX4_init 19 = .ok (.dup, 1) := by decide +kernel
theorem dX4_init_20 : decode cX4_init 20 = .ok (.invokespecial 18, 3) := by decide +kernel
theorem dX4_init_23 : decode cX4_init 23 = .ok (.putfield 19, 3) := by decide +kernel
theorem dX4_init_26 : decode cX4_init 26 = .ok (.aload_n 0, 1) := by decide +kernel
theorem dX4_init_27 : decode cX4_init 27 = .ok (.aload_n 0, 1) := by decide +kernel
theorem dX4_init_28 : decode cX4_init 28 = .ok (.getfield 19, 3) := by decide +kernel
theorem dX4_init_31 : decode cX4_init 31 = .ok (.getfield 23, 3) := by decide +kernel
theorem dX4_init_34 : decode cX4_init 34 = .ok (.putfield 27, 3) := by decide +kernel
theorem dX4_init_37 : decode cX4_init 37 = .ok (.aload_n 0, 1) := by decide +kernel
theorem dX4_init_38 : decode cX4_init 38 = .ok (.aload_n 0, 1) := by decide +kernel
theorem dX4_init_39 : decode cX4_init 39 = .ok (.getfield 19, 3) := by decide +kernel
theorem dX4_init_42 : decode cX4_init 42 = .ok (.getfield 28, 3) := by decide +kernel
theorem dX4_init_45 : decode cX4_init 45 = .ok (.putfield 32, 3) := by decide +kernel
theorem dX4_init_48 : decode cX4_init 48 = .ok (.aload_n 0, 1) := by decide +kernel
theorem dX4_init_49 : decode cX4_init 49 = .ok (.bipush 10, 2) := by decide +kernel
theorem dX4_init_51 : decode cX4_init 51 = .ok (.anewarray 35, 3) := by decide +kernel
theorem dX4_init_54 : decode cX4_init 54 = .ok (.putfield 37, 3) := by decide +kernel
theorem dX4_init_57 : decode cX4_init 57 = .ok (.aload_n 0, 1) := by decide +kernel
theorem dX4_init_58 : decode cX4_init 58 = .ok (.iconst 0, 1) := by decide +kernel
theorem dX4_init_59 : decode cX4_init 59 = .ok (.putfield 41, 3) := by decide +kernel
theorem dX4_init_62 : decode cX4_init 62 = .ok (.aload_n 0, 1) := by decide +kernel
theorem dX4_init_63 : decode cX4_init 63 = .ok (.iconst 2, 1) := by decide +kernel
theorem dX4_init_64 : decode cX4_init 64 = .ok (.anewarray 35, 3) := by decide +kernel
theorem dX4_init_67 : decode cX4_init 67 = .ok (.putfield 45, 3) := by decide +kernel
theorem dX4_init_70 : decode cX4_init 70 = .ok (.aload_n 0, 1) := by decide +kernel
theorem dX4_init_71 : decode cX4_init 71 = .ok (.iconst 2, 1) := by decide +kernel
theorem dX4_init_72 : decode cX4_init 72 = .ok (.newarray .boolean, 2) := by decide +kernel
theorem dX4_init_74 : decode cX4_init 74 = .ok (.putfield 48, 3) := by decide +kernel
theorem dX4_init_77 : decode cX4_init 77 = .ok (.aload_n 0, 1) := by decide +kernel
theorem dX4_init_78 : decode cX4_init 78 = .ok (.bipush 6, 2) := by decide +kernel
theorem dX4_init_80 : decode cX4_init 80 = .ok (.newarray .int, 2) := by decide +kernel
theorem dX4_init_82 : decode cX4_init 82 = .ok (.putfield 52, 3) := by decide +kernel
theorem dX4_init_85 : decode cX4_init 85 = .ok (.aload_n 0, 1) := by decide +kernel
theorem dX4_init_86 : decode cX4_init 86 = .ok (.bipush 6, 2) := by decide +kernel
theorem dX4_init_88 : decode cX4_init 88 = .ok (.newarray .int, 2) := by decide +kernel
theorem dX4_init_90 : decode cX4_init 90 = .ok (.putfield 56, 3) := by decide +kernel
theorem dX4_init_93 : decode cX4_init 93 = .ok (.aload_n 0, 1) := by decide +kernel
theorem dX4_init_94 : decode cX4_init 94 = .ok (.iconst 0, 1) := by decide +kernel
theorem dX4_init_95 : decode cX4_init 95 = .ok (.putfield 59, 3) := by decide +kernel
theorem dX4_init_98 : decode cX4_init 98 = .ok (.aload_n 0, 1) := by decide +kernel
theorem dX4_init_99 : decode cX4_init 99 = .ok (.iconst 0, 1) := by decide +kernel
theorem dX4_init_100 : decode cX4_init 100 = .ok (.putfield 62, 3) := by decide +kernel
theorem dX4_init_103 : decode cX4_init 103 = .ok (.iconst 0, 1) := by decide +kernel
theorem dX4_init_104 : decode cX4_init 104 = .ok (.istore_n 1, 1) := by decide +kernel
theorem dX4_init_105 : decode cX4_init 105 = .ok (.iload_n 1, 1) := by decide +kernel
theorem dX4_init_106 : decode cX4_init 106 = .ok (.bipush 10, 2) := by decide +kernel
theorem dX4_init_108 : decode cX4_init 108 = .ok (.if_icmp .ge 22, 3) := by decide +kernel
theorem dX4_init_111 : decode cX4_init 111 = .ok (.aload_n 0, 1) := by decide +kernel
theorem dX4_init_112 : decode cX4_init 112 = .ok (.getfield 37, 3) := by decide +kernel
theorem dX4_init_115 : decode cX4_init 115 = .ok (.iload_n 1, 1) := by decide +kernel
theorem dX4_init_116 : decode cX4_init 116 = .ok (.new 35, 3) := by decide +kernel
theorem dX4_init_119 : decode cX4_init 119 = .ok (.dup, 1) := by decide +kernel
theorem dX4_init_120 : decode cX4_init 120 = .ok (.invokespecial 66, 3) := by decide +kernel
theorem dX4_init_123 : decode cX4_init 123 = .ok (.aastore, 1) := by decide +kernel
theorem dX4_init_124 : decode cX4_init 124 = .ok (.iinc 1 1, 3) := by decide +kernel
theorem dX4_init_127 : decode cX4_init 127 = .ok (.goto (-22), 3) := by decide +kernel
theorem dX4_init_130 : decode cX4_init 130 = .ok (.iconst 0, 1) := by decide +kernel
theorem dX4_init_131 : decode cX4_init 131 = .ok (.istore_n 1, 1) := by decide +kernel
theorem dX4_init_132 : decode cX4_init 132 = .ok (.iload_n 1, 1) := by decide +kernel
theorem dX4_init_133 : decode cX4_init 133 = .ok (.iconst 2, 1) := by decide +kernel
theorem dX4_init_134 : decode cX4_init 134 = .ok (.if_icmp .ge 22, 3) := by decide +kernel
theorem dX4_init_137 : decode cX4_init 137 = .ok (.aload_n 0, 1) := by decide +kernel
theorem dX4_init_138 : decode cX4_init 138 = .ok (.getfield 45, 3) := by decide +kernel
theorem dX4_init_141 : decode cX4_init 141 = .ok (.iload_n 1, 1) := by decide +kernel
theorem dX4_init_142 : decode cX4_init 142 = .ok (.new 35, 3) := by decide +kernel
theorem dX4_init_145 : decode cX4_init 145 = .ok (.dup, 1) := by decide +kernel
theorem dX4_init_146 : decode cX4_init 146 = .ok (.invokespecial 66, 3) := by decide +kernel
theorem dX4_init_149 : decode cX4_init 149 = .ok (.aastore, 1) := by decide +kernel
theorem dX4_init_150 : decode cX4_init 150 = .ok (.iinc 1 1, 3) := by decide +kernel
theorem dX4_init_153 : decode cX4_init 153 = .ok (.goto (-21), 3) := by decide +kernel
theorem dX4_init_156 : decode cX4_init 156 = .ok (.return_, 1) := by decide +kernel
theorem dX4_type_0 : decode cX4_type 0 = .ok (.iload_n 1, 1) := by decide +kernel
theorem dX4_type_1 : decode cX4_type 1 = .ok (.ifCond .lt 10, 3) := by decide +kernel
theorem dX4_type_4 : decode cX4_type 4 = .ok (.iload_n 1, 1) := by decide +kernel
theorem dX4_type_5 : decode cX4_type 5 = .ok (.sipush 255, 3) := by decide +kernel
theorem dX4_type_8 : decode cX4_type 8 = .ok (.if_icmp .le 5, 3) := by decide +kernel
theorem dX4_type_11 : decode cX4_type 11 = .ok (.iconst (-1), 1) := by decide +kernel
theorem dX4_type_12 : decode cX4_type 12 = .ok (.ireturn, 1) := by decide +kernel
theorem dX4_type_13 : decode cX4_type 13 = .ok (.aload_n 0, 1) := by decide +kernel
theorem dX4_type_14 : decode cX4_type 14 = .ok (.getfield 10, 3) := by decide +kernel
theorem dX4_type_17 : decode cX4_type 17 = .ok (.getfield 67, 3) := by decide +kernel
theorem dX4_type_20 : decode cX4_type 20 = .ok (.sipush 150, 3) := by decide +kernel
theorem dX4_type_23 : decode cX4_type 23 = .ok (.if_icmp .lt 6, 3) := by decide +kernel
theorem dX4_type_26 : decode cX4_type 26 = .ok (.bipush (-3), 2) := by decide +kernel
theorem dX4_type_28 : decode cX4_type 28 = .ok (.ireturn, 1) := by decide +kernel
theorem dX4_type_29 : decode cX4_type 29 = .ok (.aload_n 0, 1) := by decide +kernel
theorem dX4_type_30 : decode cX4_type 30 = .ok (.getfield 10, 3) := by decide +kernel
theorem dX4_type_33 : decode cX4_type 33 = .ok (.iload_n 1, 1) := by decide +kernel
theorem dX4_type_34 : decode cX4_type 34 = .ok (.invokevirtual 70, 3) := by decide +kernel
theorem dX4_type_37 : decode cX4_type 37 = .ok (.aload_n 0, 1) := by decide +kernel
theorem dX4_type_38 : decode cX4_type 38 = .ok (.getfield 10, 3) := by decide +kernel
theorem dX4_type_41 : decode cX4_type 41 = .ok (.getfield 67, 3) := by decide +kernel
theorem dX4_type_44 : decode cX4_type 44 = .ok (.ireturn, 1) := by decide +kernel
theorem dX4_clear_0 : decode cX4_clear 0 = .ok (.aload_n 0, 1) := by decide +kernel
theorem dX4_clear_1 : decode cX4_clear 1 = .ok (.getfield 10, 3) := by decide +kernel
theorem dX4_clear_4 : decode cX4_clear 4 = .ok (.getfield 67, 3) := by decide +kernel
theorem dX4_clear_7 : decode cX4_clear 7 = .ok (.istore_n 1, 1) := by decide +kernel
theorem dX4_clear_8 : decode cX4_clear 8 = .ok (.aload_n 0, 1) := by decide +kernel
theorem dX4_clear_9 : decode cX4_clear 9 = .ok (.getfield 10, 3) := by decide +kernel
theorem dX4_clear_12 : decode cX4_clear 12 = .ok (.iconst 0, 1) := by decide +kernel
theorem dX4_clear_13 : decode cX4_clear 13 = .ok (.putfield 67, 3) := by decide +kernel
theorem dX4_clear_16 : decode cX4_clear 16 = .ok (.iload_n 1, 1) := by decide +kernel
theorem dX4_clear_17 : decode cX4_clear 17 = .ok (.ireturn, 1) := by decide +kernel
theorem dX4_band_0 : decode cX4_band 0 = .ok (.aload_n 0, 1) := by decide +kernel
theorem dX4_band_1 : decode cX4_band 1 = .ok (.getfield 10, 3) := by decide +kernel
theorem dX4_band_4 : decode cX4_band 4 = .ok (.invokevirtual 74, 3) := by decide +kernel
theorem dX4_band_7 : decode cX4_band 7 = .ok (.istore_n 1, 1) := by decide +kernel
theorem dX4_band_8 : decode cX4_band 8 = .ok (.iload_n 1, 1) := by decide +kernel
theorem dX4_band_9 : decode cX4_band 9 = .ok (.ifCond .ge 5, 3) := by decide +kernel
theorem dX4_band_12 : decode cX4_band 12 = .ok (.iload_n 1, 1) := by decide +kernel
theorem dX4_band_13 : decode cX4_band 13 = .ok (.ireturn, 1) := by decide +kernel
theorem dX4_band_14 : decode cX4_band 14 = .ok (.aload_n 0, 1) := by decide +kernel
theorem dX4_band_15 : decode cX4_band 15 = .ok (.getfield 27, 3) := by decide +kernel
theorem dX4_band_18 : decode cX4_band 18 = .ok (.aload_n 0, 1) := by decide +kernel
theorem dX4_band_19 : decode cX4_band 19 = .ok (.getfield 10, 3) := by decide +kernel
theorem dX4_band_22 : decode cX4_band 22 = .ok (.getfield 78, 3) := by decide +kernel
theorem dX4_band_25 : decode cX4_band 25 = .ok (.invokevirtual 79, 3) := by decide +kernel
theorem dX4_band_28 : decode cX4_band 28 = .ok (.aload_n 0, 1) := by decide +kernel
theorem dX4_band_29 : decode cX4_band 29 = .ok (.getfield 32, 3) := by decide +kernel
theorem dX4_band_32 : decode cX4_band 32 = .ok (.aload_n 0, 1) := by decide +kernel
theorem dX4_band_33 : decode cX4_band 33 = .ok (.getfield 10, 3) := by decide +kernel
theorem dX4_band_36 : decode cX4_band 36 = .ok (.getfield 85, 3) := by decide +kernel
theorem dX4_band_39 : decode cX4_band 39 = .ok (.invokevirtual 86, 3) := by decide +kernel
theorem dX4_band_42 : decode cX4_band 42 = .ok (.aload_n 0, 1) := by decide +kernel
theorem dX4_band_43 : decode cX4_band 43 = .ok (.getfield 10, 3) := by decide +kernel
theorem dX4_band_46 : decode cX4_band 46 = .ok (.iconst 0, 1) := by decide +kernel
theorem dX4_band_47 : decode cX4_band 47 = .ok (.putfield 67, 3) := by decide +kernel
theorem dX4_band_50 : decode cX4_band 50 = .ok (.aload_n 0, 1) := by decide +kernel
theorem dX4_band_51 : decode cX4_band 51 = .ok (.iconst 0, 1) := by decide +kernel
theorem dX4_band_52 : decode cX4_band 52 = .ok (.putfield 41, 3) := by decide +kernel
theorem dX4_band_55 : decode cX4_band 55 = .ok (.aload_n 0, 1) := by decide +kernel
theorem dX4_band_56 : decode cX4_band 56 = .ok (.iconst 0, 1) := by decide +kernel
theorem dX4_band_57 : decode cX4_band 57 = .ok (.putfield 59, 3) := by decide +kernel
theorem dX4_band_60 : decode cX4_band 60 = .ok (.iconst 0, 1) := by decide +kernel
theorem dX4_band_61 : decode cX4_band 61 = .ok (.istore_n 2, 1) := by decide +kernel
theorem dX4_band_62 : decode cX4_band 62 = .ok (.iload_n 2, 1) := by decide +kernel
theorem dX4_band_63 : decode cX4_band 63 = .ok (.iconst 2, 1) := by decide +kernel
theorem dX4_band_64 : decode cX4_band 64 = .ok (.if_icmp .ge 16, 3) := by decide +kernel
theorem dX4_band_67 : decode cX4_band 67 = .ok (.aload_n 0, 1) := by decide +kernel
theorem dX4_band_68 : decode cX4_band 68 = .ok (.getfield 48, 3) := by decide +kernel
theorem dX4_band_71 : decode cX4_band 71 = .ok (.iload_n 2, 1) := by decide +kernel
theorem dX4_band_72 : decode cX4_band 72 = .ok (.iconst 0, 1) := by decide +kernel
theorem dX4_band_73 : decode cX4_band 73 = .ok (.bastore, 1) := by decide +kernel
theorem dX4_band_74 : decode cX4_band 74 = .ok (.iinc 2 1, 3) := by decide +kernel
theorem dX4_band_77 : decode cX4_band 77 = .ok (.goto (-15), 3) := by decide +kernel
theorem dX4_band_80 : decode cX4_band 80 = .ok (.aload_n 0, 1) := by decide +kernel
theorem dX4_band_81 : decode cX4_band 81 = .ok (.iconst 0, 1) := by decide +kernel
theorem dX4_band_82 : decode cX4_band 82 = .ok (.putfield 62, 3) := by decide +kernel
theorem dX4_band_85 : decode cX4_band 85 = .ok (.iload_n 1, 1) := by decide +kernel
theorem dX4_band_86 : decode cX4_band 86 = .ok (.ireturn, 1) := by decide +kernel
theorem dX4_player_0 : decode cX4_player 0 = .ok (.aload_n 0, 1) := by decide +kernel
theorem dX4_player_1 : decode cX4_player 1 = .ok (.iload_n 1, 1) := by decide +kernel
theorem dX4_player_2 : decode cX4_player 2 = .ok (.invokevirtual 89, 3) := by decide +kernel
theorem dX4_player_5 : decode cX4_player 5 = .ok (.ifCond .ne 5, 3) := by decide +kernel
theorem dX4_player_8 : decode cX4_player 8 = .ok (.iconst (-1), 1) := by decide +kernel
theorem dX4_player_9 : decode cX4_player 9 = .ok (.ireturn, 1) := by decide +kernel
theorem dX4_player_10 : decode cX4_player 10 = .ok (.iload_n 2, 1) := by decide +kernel
theorem dX4_player_11 : decode cX4_player 11 = .ok (.tableswitch 85 0 4 #[33, 43, 53, 63, 73], 33) := by decide +kernel
theorem dX4_player_44 : decode cX4_player 44 = .ok (.aload_n 0, 1) := by decide +kernel
theorem dX4_player_45 : decode cX4_player 45 = .ok (.getfield 27, 3) := by decide +kernel
theorem dX4_player_48 : decode cX4_player 48 = .ok (.getfield 93, 3) := by decide +kernel
theorem dX4_player_51 : decode cX4_player 51 = .ok (.iload_n 1, 1) := by decide +kernel
theorem dX4_player_52 : decode cX4_player 52 = .ok (.iaload, 1) := by decide +kernel
theorem dX4_player_53 : decode cX4_player 53 = .ok (.ireturn, 1) := by decide +kernel
theorem dX4_player_54 : decode cX4_player 54 = .ok (.aload_n 0, 1) := by decide +kernel
theorem dX4_player_55 : decode cX4_player 55 = .ok (.getfield 27, 3) := by decide +kernel
theorem dX4_player_58 : decode cX4_player 58 = .ok (.getfield 96, 3) := by decide +kernel
theorem dX4_player_61 : decode cX4_player 61 = .ok (.iload_n 1, 1) := by decide +kernel
theorem dX4_player_62 : decode cX4_player 62 = .ok (.iaload, 1) := by decide +kernel
theorem dX4_player_63 : decode cX4_player 63 = .ok (.ireturn, 1) := by decide +kernel
theorem dX4_player_64 : decode cX4_player 64 = .ok (.aload_n 0, 1) := by decide +kernel
theorem dX4_player_65 : decode cX4_player 65 = .ok (.getfield 27, 3) := by decide +kernel
theorem dX4_player_68 : decode cX4_player 68 = .ok (.getfield 99, 3) := by decide +kernel
theorem dX4_player_71 : decode cX4_player 71 = .ok (.iload_n 1, 1) := by decide +kernel
theorem dX4_player_72 : decode cX4_player 72 = .ok (.iaload, 1) := by decide +kernel
theorem dX4_player_73 : decode cX4_player 73 = .ok (.ireturn, 1) := by decide +kernel
theorem dX4_player_74 : decode cX4_player 74 = .ok (.aload_n 0, 1) := by decide +kernel
theorem dX4_player_75 : decode cX4_player 75 = .ok (.getfield 27, 3) := by decide +kernel
theorem dX4_player_78 : decode cX4_player 78 = .ok (.getfield 102, 3) := by decide +kernel
theorem dX4_player_81 : decode cX4_player 81 = .ok (.iload_n 1, 1) := by decide +kernel
theorem dX4_player_82 : decode cX4_player 82 = .ok (.iaload, 1) := by decide +kernel
theorem dX4_player_83 : decode cX4_player 83 = .ok (.ireturn, 1) := by decide +kernel
theorem dX4_player_84 : decode cX4_player 84 = .ok (.aload_n 0, 1) := by decide +kernel
theorem dX4_player_85 : decode cX4_player 85 = .ok (.getfield 32, 3) := by decide +kernel
theorem dX4_player_88 : decode cX4_player 88 = .ok (.getfield 105, 3) := by decide +kernel
theorem dX4_player_91 : decode cX4_player 91 = .ok (.iload_n 1, 1) := by decide +kernel
theorem dX4_player_92 : decode cX4_player 92 = .ok (.ishr, 1) := by decide +kernel
theorem dX4_player_93 : decode cX4_player 93 = .ok (.iconst 1, 1) := by decide +kernel
theorem dX4_player_94 : decode cX4_player 94 = .ok (.iand, 1) := by decide +kernel
theorem dX4_player_95 : decode cX4_player 95 = .ok (.ireturn, 1) := by decide +kernel
theorem dX4_player_96 : decode cX4_player 96 = .ok (.iconst (-1), 1) := by decide +kernel
theorem dX4_player_97 : decode cX4_player 97 = .ok (.ireturn, 1) := by decide +kernel
theorem dX4_span_0 : decode cX4_span 0 = .ok (.aload_n 0, 1) := by decide +kernel
theorem dX4_span_1 : decode cX4_span 1 = .ok (.iload_n 1, 1) := by decide +kernel
theorem dX4_span_2 : decode cX4_span 2 = .ok (.invokevirtual 89, 3) := by decide +kernel
theorem dX4_span_5 : decode cX4_span 5 = .ok (.ifCond .eq 16, 3) := by decide +kernel
theorem dX4_span_8 : decode cX4_span 8 = .ok (.aload_n 0, 1) := by decide +kernel
theorem dX4_span_9 : decode cX4_span 9 = .ok (.getfield 27, 3) := by decide +kernel
theorem dX4_span_12 : decode cX4_span 12 = .ok (.getfield 93, 3) := by decide +kernel
theorem dX4_span_15 : decode cX4_span 15 = .ok (.iload_n 1, 1) := by decide +kernel
theorem dX4_span_16 : decode cX4_span 16 = .ok (.iaload, 1) := by decide +kernel
theorem dX4_span_17 : decode cX4_span 17 = .ok (.iconst 1, 1) := by decide +kernel
theorem dX4_span_18 : decode cX4_span 18 = .ok (.if_icmp .eq 5, 3) := by decide +kernel
theorem dX4_span_21 : decode cX4_span 21 = .ok (.iconst (-1), 1) := by decide +kernel
theorem dX4_span_22 : decode cX4_span 22 = .ok (.ireturn, 1) := by decide +kernel
theorem dX4_span_23 : decode cX4_span 23 = .ok (.aload_n 0, 1) := by decide +kernel
theorem dX4_span_24 : decode cX4_span 24 = .ok (.getfield 27, 3) := by decide +kernel
theorem dX4_span_27 : decode cX4_span 27 = .ok (.getfield 108, 3) := by decide +kernel
theorem dX4_span_30 : decode cX4_span 30 = .ok (.iload_n 1, 1) := by decide +kernel
theorem dX4_span_31 : decode cX4_span 31 = .ok (.iaload, 1) := by decide +kernel
theorem dX4_span_32 : decode cX4_span 32 = .ok (.ireturn, 1) := by decide +kernel
theorem dX4_chord_0 : decode cX4_chord 0 = .ok (.aload_n 0, 1) := by decide +kernel
theorem dX4_chord_1 : decode cX4_chord 1 = .ok (.iload_n 1, 1) := by decide +kernel
theorem dX4_chord_2 : decode cX4_chord 2 = .ok (.invokevirtual 111, 3) := by decide +kernel
theorem dX4_chord_5 : decode cX4_chord 5 = .ok (.ifCond .eq 8, 3) := by decide +kernel
theorem dX4_chord_8 : decode cX4_chord 8 = .ok (.iload_n 2, 1) := by decide +kernel
theorem dX4_chord_9 : decode cX4_chord 9 = .ok (.iconst (-1), 1) := by decide +kernel
theorem dX4_chord_10 : decode cX4_chord 10 = .ok (.if_icmp .ge 5, 3) := by decide +kernel
theorem dX4_chord_13 : decode cX4_chord 13 = .ok (.iconst (-1), 1) := by decide +kernel
theorem dX4_chord_14 : decode cX4_chord 14 = .ok (.ireturn, 1) := by decide +kernel
theorem dX4_chord_15 : decode cX4_chord 15 = .ok (.aload_n 0, 1) := by decide +kernel
theorem dX4_chord_16 : decode cX4_chord 16 = .ok (.getfield 32, 3) := by decide +kernel
theorem dX4_chord_19 : decode cX4_chord 19 = .ok (.iload_n 1, 1) := by decide +kernel
theorem dX4_chord_20 : decode cX4_chord 20 = .ok (.invokevirtual 114, 3) := by decide +kernel
theorem dX4_chord_23 : decode cX4_chord 23 = .ok (.istore_n 3, 1) := by decide +kernel
theorem dX4_chord_24 : decode cX4_chord 24 = .ok (.iload_n 2, 1) := by decide +kernel
theorem dX4_chord_25 : decode cX4_chord 25 = .ok (.iconst (-1), 1) := by decide +kernel
theorem dX4_chord_26 : decode cX4_chord 26 = .ok (.if_icmp .ne 5, 3) := by decide +kernel
theorem dX4_chord_29 : decode cX4_chord 29 = .ok (.iload_n 3, 1) := by decide +kernel
theorem dX4_chord_30 : decode cX4_chord 30 = .ok (.ireturn, 1) := by decide +kernel
theorem dX4_chord_31 : decode cX4_chord 31 = .ok (.iload_n 2, 1) := by decide +kernel
theorem dX4_chord_32 : decode cX4_chord 32 = .ok (.iload_n 3, 1) := by decide +kernel
theorem dX4_chord_33 : decode cX4_chord 33 = .ok (.if_icmp .ge 15, 3) := by decide +kernel
theorem dX4_chord_36 : decode cX4_chord 36 = .ok (.aload_n 0, 1) := by decide +kernel
theorem dX4_chord_37 : decode cX4_chord 37 = .ok (.getfield 32, 3) := by decide +kernel
theorem dX4_chord_40 : decode cX4_chord 40 = .ok (.iload_n 1, 1) := by decide +kernel
theorem dX4_chord_41 : decode cX4_chord 41 = .ok (.iload_n 2, 1) := by decide +kernel
theorem dX4_chord_42 : decode cX4_chord 42 = .ok (.invokevirtual 118, 3) := by decide +kernel
theorem dX4_chord_45 : decode cX4_chord 45 = .ok (.goto 5, 3) := by decide +kernel
theorem dX4_chord_48 : decode cX4_chord 48 = .ok (.bipush (-9), 2) := by decide +kernel
theorem dX4_chord_50 : decode cX4_chord 50 = .ok (.ireturn, 1) := by decide +kernel
theorem dX4_puts_0 : decode cX4_puts 0 = .ok (.iload_n 1, 1) := by decide +kernel
theorem dX4_puts_1 : decode cX4_puts 1 = .ok (.ifCond .lt 24, 3) := by decide +kernel
theorem dX4_puts_4 : decode cX4_puts 4 = .ok (.iload_n 1, 1) := by decide +kernel
theorem dX4_puts_5 : decode cX4_puts 5 = .ok (.aload_n 0, 1) := by decide +kernel
theorem dX4_puts_6 : decode cX4_puts 6 = .ok (.getfield 32, 3) := by decide +kernel
theorem dX4_puts_9 : decode cX4_puts 9 = .ok (.getfield 122, 3) := by decide +kernel
theorem dX4_puts_12 : decode cX4_puts 12 = .ok (.if_icmp .gt 13, 3) := by decide +kernel
theorem dX4_puts_15 : decode cX4_puts 15 = .ok (.iload_n 2, 1) := by decide +kernel
theorem dX4_puts_16 : decode cX4_puts 16 = .ok (.iload_n 3, 1) := by decide +kernel
theorem dX4_puts_17 : decode cX4_puts 17 = .ok (.iload 4, 2) := by decide +kernel
theorem dX4_puts_19 : decode cX4_puts 19 = .ok (.invokestatic 125, 3) := by decide +kernel
theorem dX4_puts_22 : decode cX4_puts 22 = .ok (.ifCond .ne 5, 3) := by decide +kernel
theorem dX4_puts_25 : decode cX4_puts 25 = .ok (.iconst (-1), 1) := by decide +kernel
theorem dX4_puts_26 : decode cX4_puts 26 = .ok (.ireturn, 1) := by decide +kernel
theorem dX4_puts_27 : decode cX4_puts 27 = .ok (.iload_n 1, 1) := by decide +kernel
theorem dX4_puts_28 : decode cX4_puts 28 = .ok (.aload_n 0, 1) := by decide +kernel
theorem dX4_puts_29 : decode cX4_puts 29 = .ok (.getfield 32, 3) := by decide +kernel
theorem dX4_puts_32 : decode cX4_puts 32 = .ok (.getfield 122, 3) := by decide +kernel
theorem dX4_puts_35 : decode cX4_puts 35 = .ok (.if_icmp .ge 21, 3) := by decide +kernel
theorem dX4_puts_38 : decode cX4_puts 38 = .ok (.aload_n 0, 1) := by decide +kernel
theorem dX4_puts_39 : decode cX4_puts 39 = .ok (.getfield 32, 3) := by decide +kernel
theorem dX4_puts_42 : decode cX4_puts 42 = .ok (.iload_n 1, 1) := by decide +kernel
theorem dX4_puts_43 : decode cX4_puts 43 = .ok (.iload_n 2, 1) := by decide +kernel
theorem dX4_puts_44 : decode cX4_puts 44 = .ok (.iload_n 3, 1) := by decide +kernel
theorem dX4_puts_45 : decode cX4_puts 45 = .ok (.iload 4, 2) := by decide +kernel
theorem dX4_puts_47 : decode cX4_puts 47 = .ok (.invokevirtual 129, 3) := by decide +kernel
theorem dX4_puts_50 : decode cX4_puts 50 = .ok (.ifCond .eq 6, 3) := by decide +kernel
theorem dX4_puts_53 : decode cX4_puts 53 = .ok (.bipush (-2), 2) := by decide +kernel
theorem dX4_puts_55 : decode cX4_puts 55 = .ok (.ireturn, 1) := by decide +kernel
theorem dX4_puts_56 : decode cX4_puts 56 = .ok (.iload_n 1, 1) := by decide +kernel
theorem dX4_puts_57 : decode cX4_puts 57 = .ok (.bipush 8, 2) := by decide +kernel
theorem dX4_puts_59 : decode cX4_puts 59 = .ok (.if_icmp .lt 6, 3) := by decide +kernel
theorem dX4_puts_62 : decode cX4_puts 62 = .ok (.bipush (-3), 2) := by decide +kernel
theorem dX4_puts_64 : decode cX4_puts 64 = .ok (.ireturn, 1) := by decide +kernel
theorem dX4_puts_65 : decode cX4_puts 65 = .ok (.aload_n 0, 1) := by decide +kernel
theorem dX4_puts_66 : decode cX4_puts 66 = .ok (.invokevirtual 133, 3) := by decide +kernel
theorem dX4_puts_69 : decode cX4_puts 69 = .ok (.aload_n 0, 1) := by decide +kernel
theorem dX4_puts_70 : decode cX4_puts 70 = .ok (.getfield 32, 3) := by decide +kernel
theorem dX4_puts_73 : decode cX4_puts 73 = .ok (.iload_n 1, 1) := by decide +kernel
theorem dX4_puts_74 : decode cX4_puts 74 = .ok (.iload_n 2, 1) := by decide +kernel
theorem dX4_puts_75 : decode cX4_puts 75 = .ok (.iload_n 3, 1) := by decide +kernel
theorem dX4_puts_76 : decode cX4_puts 76 = .ok (.iload 4, 2) := by decide +kernel
theorem dX4_puts_78 : decode cX4_puts 78 = .ok (.invokevirtual 136, 3) := by decide +kernel
theorem dX4_puts_81 : decode cX4_puts 81 = .ok (.aload_n 0, 1) := by decide +kernel
theorem dX4_puts_82 : decode cX4_puts 82 = .ok (.getfield 32, 3) := by decide +kernel
theorem dX4_puts_85 : decode cX4_puts 85 = .ok (.getfield 122, 3) := by decide +kernel
theorem dX4_puts_88 : decode cX4_puts 88 = .ok (.ireturn, 1) := by decide +kernel
theorem dX4_takes_0 : decode cX4_takes 0 = .ok (.aload_n 0, 1) := by decide +kernel
theorem dX4_takes_1 : decode cX4_takes 1 = .ok (.iload_n 1, 1) := by decide +kernel
theorem dX4_takes_2 : decode cX4_takes 2 = .ok (.invokevirtual 111, 3) := by decide +kernel
theorem dX4_takes_5 : decode cX4_takes 5 = .ok (.ifCond .ne 5, 3) := by decide +kernel
theorem dX4_takes_8 : decode cX4_takes 8 = .ok (.iconst (-1), 1) := by decide +kernel
theorem dX4_takes_9 : decode cX4_takes 9 = .ok (.ireturn, 1) := by decide +kernel
theorem dX4_takes_10 : decode cX4_takes 10 = .ok (.aload_n 0, 1) := by decide +kernel
theorem dX4_takes_11 : decode cX4_takes 11 = .ok (.invokevirtual 133, 3) := by decide +kernel
theorem dX4_takes_14 : decode cX4_takes 14 = .ok (.aload_n 0, 1) := by decide +kernel
theorem dX4_takes_15 : decode cX4_takes 15 = .ok (.getfield 32, 3) := by decide +kernel
theorem dX4_takes_18 : decode cX4_takes 18 = .ok (.iload_n 1, 1) := by decide +kernel
theorem dX4_takes_19 : decode cX4_takes 19 = .ok (.invokevirtual 140, 3) := by decide +kernel
theorem dX4_takes_22 : decode cX4_takes 22 = .ok (.aload_n 0, 1) := by decide +kernel
theorem dX4_takes_23 : decode cX4_takes 23 = .ok (.getfield 32, 3) := by decide +kernel
theorem dX4_takes_26 : decode cX4_takes 26 = .ok (.getfield 122, 3) := by decide +kernel
theorem dX4_takes_29 : decode cX4_takes 29 = .ok (.ireturn, 1) := by decide +kernel
theorem dX4_calls_0 : decode cX4_calls 0 = .ok (.aload_n 0, 1) := by decide +kernel
theorem dX4_calls_1 : decode cX4_calls 1 = .ok (.iload_n 1, 1) := by decide +kernel
theorem dX4_calls_2 : decode cX4_calls 2 = .ok (.invokevirtual 89, 3) := by decide +kernel
theorem dX4_calls_5 : decode cX4_calls 5 = .ok (.ifCond .ne 5, 3) := by decide +kernel
theorem dX4_calls_8 : decode cX4_calls 8 = .ok (.iconst (-1), 1) := by decide +kernel
theorem dX4_calls_9 : decode cX4_calls 9 = .ok (.ireturn, 1) := by decide +kernel
theorem dX4_calls_10 : decode cX4_calls 10 = .ok (.aload_n 0, 1) := by decide +kernel
theorem dX4_calls_11 : decode cX4_calls 11 = .ok (.invokevirtual 133, 3) := by decide +kernel
theorem dX4_calls_14 : decode cX4_calls 14 = .ok (.aload_n 0, 1) := by decide +kernel
theorem dX4_calls_15 : decode cX4_calls 15 = .ok (.getfield 32, 3) := by decide +kernel
theorem dX4_calls_18 : decode cX4_calls 18 = .ok (.dup, 1) := by decide +kernel
theorem dX4_calls_19 : decode cX4_calls 19 = .ok (.getfield 105, 3) := by decide +kernel
theorem dX4_calls_22 : decode cX4_calls 22 = .ok (.iconst 1, 1) := by decide +kernel
theorem dX4_calls_23 : decode cX4_calls 23 = .ok (.iload_n 1, 1) := by decide +kernel
theorem dX4_calls_24 : decode cX4_calls 24 = .ok (.ishl, 1) := by decide +kernel
theorem dX4_calls_25 : decode cX4_calls 25 = .ok (.ixor, 1) := by decide +kernel
theorem dX4_calls_26 : decode cX4_calls 26 = .ok (.putfield 105, 3) := by decide +kernel
theorem dX4_calls_29 : decode cX4_calls 29 = .ok (.aload_n 0, 1) := by decide +kernel
theorem dX4_calls_30 : decode cX4_calls 30 = .ok (.getfield 32, 3) := by decide +kernel
theorem dX4_calls_33 : decode cX4_calls 33 = .ok (.getfield 105, 3) := by decide +kernel
theorem dX4_calls_36 : decode cX4_calls 36 = .ok (.iload_n 1, 1) := by decide +kernel
theorem dX4_calls_37 : decode cX4_calls 37 = .ok (.ishr, 1) := by decide +kernel
theorem dX4_calls_38 : decode cX4_calls 38 = .ok (.iconst 1, 1) := by decide +kernel
theorem dX4_calls_39 : decode cX4_calls 39 = .ok (.iand, 1) := by decide +kernel
theorem dX4_calls_40 : decode cX4_calls 40 = .ok (.ireturn, 1) := by decide +kernel
theorem dX4_tells_0 : decode cX4_tells 0 = .ok (.iload_n 1, 1) := by decide +kernel
theorem dX4_tells_1 : decode cX4_tells 1 = .ok (.iconst 0, 1) := by decide +kernel
theorem dX4_tells_2 : decode cX4_tells 2 = .ok (.bipush 20, 2) := by decide +kernel
theorem dX4_tells_4 : decode cX4_tells 4 = .ok (.invokestatic 143, 3) := by decide +kernel
theorem dX4_tells_7 : decode cX4_tells 7 = .ok (.ifCond .eq 13, 3) := by decide +kernel
theorem dX4_tells_10 : decode cX4_tells 10 = .ok (.iload_n 2, 1) := by decide +kernel
theorem dX4_tells_11 : decode cX4_tells 11 = .ok (.iconst 0, 1) := by decide +kernel
theorem dX4_tells_12 : decode cX4_tells 12 = .ok (.bipush 30, 2) := by decide +kernel
theorem dX4_tells_14 : decode cX4_tells 14 = .ok (.invokestatic 143, 3) := by decide +kernel
theorem dX4_tells_17 : decode cX4_tells 17 = .ok (.ifCond .ne 5, 3) := by decide +kernel
theorem dX4_tells_20 : decode cX4_tells 20 = .ok (.iconst (-1), 1) := by decide +kernel
theorem dX4_tells_21 : decode cX4_tells 21 = .ok (.ireturn, 1) := by decide +kernel
theorem dX4_tells_22 : decode cX4_tells 22 = .ok (.iload_n 1, 1) := by decide +kernel
theorem dX4_tells_23 : decode cX4_tells 23 = .ok (.aload_n 0, 1) := by decide +kernel
theorem dX4_tells_24 : decode cX4_tells 24 = .ok (.getfield 32, 3) := by decide +kernel
theorem dX4_tells_27 : decode cX4_tells 27 = .ok (.getfield 146, 3) := by decide +kernel
theorem dX4_tells_30 : decode cX4_tells 30 = .ok (.if_icmp .ne 17, 3) := by decide +kernel
theorem dX4_tells_33 : decode cX4_tells 33 = .ok (.iload_n 2, 1) := by decide +kernel
theorem dX4_tells_34 : decode cX4_tells 34 = .ok (.aload_n 0, 1) := by decide +kernel
theorem dX4_tells_35 : decode cX4_tells 35 = .ok (.getfield 32, 3) := by decide +kernel
theorem dX4_tells_38 : decode cX4_tells 38 = .ok (.getfield 149, 3) := by decide +kernel
theorem dX4_tells_41 : decode cX4_tells 41 = .ok (.if_icmp .ne 6, 3) := by decide +kernel
theorem dX4_tells_44 : decode cX4_tells 44 = .ok (.bipush (-2), 2) := by decide +kernel
theorem dX4_tells_46 : decode cX4_tells 46 = .ok (.ireturn, 1) := by decide +kernel
theorem dX4_tells_47 : decode cX4_tells 47 = .ok (.aload_n 0, 1) := by decide +kernel
theorem dX4_tells_48 : decode cX4_tells 48 = .ok (.invokevirtual 133, 3) := by decide +kernel
theorem dX4_tells_51 : decode cX4_tells 51 = .ok (.aload_n 0, 1) := by decide +kernel
theorem dX4_tells_52 : decode cX4_tells 52 = .ok (.getfield 32, 3) := by decide +kernel
theorem dX4_tells_55 : decode cX4_tells 55 = .ok (.iload_n 1, 1) := by decide +kernel
theorem dX4_tells_56 : decode cX4_tells 56 = .ok (.putfield 146, 3) := by decide +kernel
theorem dX4_tells_59 : decode cX4_tells 59 = .ok (.aload_n 0, 1) := by decide +kernel
theorem dX4_tells_60 : decode cX4_tells 60 = .ok (.getfield 32, 3) := by decide +kernel
theorem dX4_tells_63 : decode cX4_tells 63 = .ok (.iload_n 2, 1) := by decide +kernel
theorem dX4_tells_64 : decode cX4_tells 64 = .ok (.putfield 149, 3) := by decide +kernel
theorem dX4_tells_67 : decode cX4_tells 67 = .ok (.iconst 1, 1) := by decide +kernel
theorem dX4_tells_68 : decode cX4_tells 68 = .ok (.ireturn, 1) := by decide +kernel
theorem dX4_undo_0 : decode cX4_undo 0 = .ok (.aload_n 0, 1) := by decide +kernel
theorem dX4_undo_1 : decode cX4_undo 1 = .ok (.getfield 41, 3) := by decide +kernel
theorem dX4_undo_4 : decode cX4_undo 4 = .ok (.ifCond .gt 6, 3) := by decide +kernel
theorem dX4_undo_7 : decode cX4_undo 7 = .ok (.bipush (-2), 2) := by decide +kernel
theorem dX4_undo_9 : decode cX4_undo 9 = .ok (.ireturn, 1) := by decide +kernel
theorem dX4_undo_10 : decode cX4_undo 10 = .ok (.aload_n 0, 1) := by decide +kernel
theorem dX4_undo_11 : decode cX4_undo 11 = .ok (.dup, 1) := by decide +kernel
theorem dX4_undo_12 : decode cX4_undo 12 = .ok (.getfield 41, 3) := by decide +kernel
theorem dX4_undo_15 : decode cX4_undo 15 = .ok (.iconst 1, 1) := by decide +kernel
theorem dX4_undo_16 : decode cX4_undo 16 = .ok (.isub, 1) := by decide +kernel
theorem dX4_undo_17 : decode cX4_undo 17 = .ok (.putfield 41, 3) := by decide +kernel
theorem dX4_undo_20 : decode cX4_undo 20 = .ok (.aload_n 0, 1) := by decide +kernel
theorem dX4_undo_21 : decode cX4_undo 21 = .ok (.getfield 32, 3) := by decide +kernel
theorem dX4_undo_24 : decode cX4_undo 24 = .ok (.aload_n 0, 1) := by decide +kernel
theorem dX4_undo_25 : decode cX4_undo 25 = .ok (.getfield 37, 3) := by decide +kernel
theorem dX4_undo_28 : decode cX4_undo 28 = .ok (.aload_n 0, 1) := by decide +kernel
theorem dX4_undo_29 : decode cX4_undo 29 = .ok (.getfield 41, 3) := by decide +kernel
theorem dX4_undo_32 : decode cX4_undo 32 = .ok (.aaload, 1) := by decide +kernel
theorem dX4_undo_33 : decode cX4_undo 33 = .ok (.invokevirtual 86, 3) := by decide +kernel
theorem dX4_undo_36 : decode cX4_undo 36 = .ok (.aload_n 0, 1) := by decide +kernel
theorem dX4_undo_37 : decode cX4_undo 37 = .ok (.iconst 0, 1) := by decide +kernel
theorem dX4_undo_38 : decode cX4_undo 38 = .ok (.putfield 62, 3) := by decide +kernel
theorem dX4_undo_41 : decode cX4_undo 41 = .ok (.aload_n 0, 1) := by decide +kernel
theorem dX4_undo_42 : decode cX4_undo 42 = .ok (.getfield 41, 3) := by decide +kernel
theorem dX4_undo_45 : decode cX4_undo 45 = .ok (.ireturn, 1) := by decide +kernel
theorem dX4_could_0 : decode cX4_could 0 = .ok (.aload_n 0, 1) := by decide +kernel
theorem dX4_could_1 : decode cX4_could 1 = .ok (.iload_n 1, 1) := by decide +kernel
theorem dX4_could_2 : decode cX4_could 2 = .ok (.invokevirtual 89, 3) := by decide +kernel
theorem dX4_could_5 : decode cX4_could 5 = .ok (.ifCond .eq 29, 3) := by decide +kernel
theorem dX4_could_8 : decode cX4_could 8 = .ok (.aload_n 0, 1) := by decide +kernel
theorem dX4_could_9 : decode cX4_could 9 = .ok (.iload_n 2, 1) := by decide +kernel
theorem dX4_could_10 : decode cX4_could 10 = .ok (.invokevirtual 111, 3) := by decide +kernel
theorem dX4_could_13 : decode cX4_could 13 = .ok (.ifCond .eq 21, 3) := by decide +kernel
theorem dX4_could_16 : decode cX4_could 16 = .ok (.iload_n 3, 1) := by decide +kernel
theorem dX4_could_17 : decode cX4_could 17 = .ok (.ifCond .lt 17, 3) := by decide +kernel
theorem dX4_could_20 : decode cX4_could 20 = .ok (.iload_n 3, 1) := by decide +kernel
theorem dX4_could_21 : decode cX4_could 21 = .ok (.iconst 1, 1) := by decide +kernel
theorem dX4_could_22 : decode cX4_could 22 = .ok (.aload_n 0, 1) := by decide +kernel
theorem dX4_could_23 : decode cX4_could 23 = .ok (.getfield 32, 3) := by decide +kernel
theorem dX4_could_26 : decode cX4_could 26 = .ok (.iload_n 2, 1) := by decide +kernel
theorem dX4_could_27 : decode cX4_could 27 = .ok (.invokevirtual 114, 3) := by decide +kernel
theorem dX4_could_30 : decode cX4_could 30 = .ok (.ishl, 1) := by decide +kernel
theorem dX4_could_31 : decode cX4_could 31 = .ok (.if_icmp .lt 5, 3) := by decide +kernel
theorem dX4_could_34 : decode cX4_could 34 = .ok (.iconst (-1), 1) := by decide +kernel
theorem dX4_could_35 : decode cX4_could 35 = .ok (.ireturn, 1) := by decide +kernel
theorem dX4_could_36 : decode cX4_could 36 = .ok (.aload_n 0, 1) := by decide +kernel
theorem dX4_could_37 : decode cX4_could 37 = .ok (.getfield 27, 3) := by decide +kernel
theorem dX4_could_40 : decode cX4_could 40 = .ok (.iload_n 1, 1) := by decide +kernel
theorem dX4_could_41 : decode cX4_could 41 = .ok (.aload_n 0, 1) := by decide +kernel
theorem dX4_could_42 : decode cX4_could 42 = .ok (.getfield 32, 3) := by decide +kernel
theorem dX4_could_45 : decode cX4_could 45 = .ok (.iload_n 2, 1) := by decide +kernel
theorem dX4_could_46 : decode cX4_could 46 = .ok (.iload_n 3, 1) := by decide +kernel
theorem dX4_could_47 : decode cX4_could 47 = .ok (.invokevirtual 152, 3) := by decide +kernel
theorem dX4_could_50 : decode cX4_could 50 = .ok (.ifCond .eq 7, 3) := by decide +kernel
theorem dX4_could_53 : decode cX4_could 53 = .ok (.iconst 1, 1) := by decide +kernel
theorem dX4_could_54 : decode cX4_could 54 = .ok (.goto 4, 3) := by decide +kernel
theorem dX4_could_57 : decode cX4_could 57 = .ok (.iconst 0, 1) := by decide +kernel
theorem dX4_could_58 : decode cX4_could 58 = .ok (.ireturn, 1) := by decide +kernel
theorem dX4_spreads_0 : decode cX4_spreads 0 = .ok (.aload_n 0, 1) := by decide +kernel
theorem dX4_spreads_1 : decode cX4_spreads 1 = .ok (.iload_n 1, 1) := by decide +kernel
theorem dX4_spreads_2 : decode cX4_spreads 2 = .ok (.invokevirtual 111, 3) := by decide +kernel
theorem dX4_spreads_5 : decode cX4_spreads 5 = .ok (.ifCond .eq 21, 3) := by decide +kernel
theorem dX4_spreads_8 : decode cX4_spreads 8 = .ok (.aload_n 0, 1) := by decide +kernel
theorem dX4_spreads_9 : decode cX4_spreads 9 = .ok (.getfield 19, 3) := by decide +kernel
theorem dX4_spreads_12 : decode cX4_spreads 12 = .ok (.iload_n 1, 1) := by decide +kernel
theorem dX4_spreads_13 : decode cX4_spreads 13 = .ok (.aload_n 0, 1) := by decide +kernel
theorem dX4_spreads_14 : decode cX4_spreads 14 = .ok (.getfield 32, 3) := by decide +kernel
theorem dX4_spreads_17 : decode cX4_spreads 17 = .ok (.getfield 105, 3) := by decide +kernel
theorem dX4_spreads_20 : decode cX4_spreads 20 = .ok (.invokevirtual 156, 3) := by decide +kernel
theorem dX4_spreads_23 : decode cX4_spreads 23 = .ok (.goto 4, 3) := by decide +kernel
theorem dX4_spreads_26 : decode cX4_spreads 26 = .ok (.iconst (-1), 1) := by decide +kernel
theorem dX4_spreads_27 : decode cX4_spreads 27 = .ok (.ireturn, 1) := by decide +kernel
theorem dX4_score_0 : decode cX4_score 0 = .ok (.iload_n 1, 1) := by decide +kernel
theorem dX4_score_1 : decode cX4_score 1 = .ok (.iconst 0, 1) := by decide +kernel
theorem dX4_score_2 : decode cX4_score 2 = .ok (.iconst 2, 1) := by decide +kernel
theorem dX4_score_3 : decode cX4_score 3 = .ok (.invokestatic 143, 3) := by decide +kernel
theorem dX4_score_6 : decode cX4_score 6 = .ok (.ifCond .ne 5, 3) := by decide +kernel
theorem dX4_score_9 : decode cX4_score 9 = .ok (.iconst (-1), 1) := by decide +kernel
theorem dX4_score_10 : decode cX4_score 10 = .ok (.ireturn, 1) := by decide +kernel
theorem dX4_score_11 : decode cX4_score 11 = .ok (.aload_n 0, 1) := by decide +kernel
theorem dX4_score_12 : decode cX4_score 12 = .ok (.invokevirtual 159, 3) := by decide +kernel
theorem dX4_score_15 : decode cX4_score 15 = .ok (.ifCond .ne 6, 3) := by decide +kernel
theorem dX4_score_18 : decode cX4_score 18 = .ok (.bipush (-9), 2) := by decide +kernel
theorem dX4_score_20 : decode cX4_score 20 = .ok (.ireturn, 1) := by decide +kernel
theorem dX4_score_21 : decode cX4_score 21 = .ok (.iload_n 1, 1) := by decide +kernel
theorem dX4_score_22 : decode cX4_score 22 = .ok (.lookupswitch 42 #[(0, 26), (1, 34)], 26) := by decide +kernel
theorem dX4_score_48 : decode cX4_score 48 = .ok (.aload_n 0, 1) := by decide +kernel
theorem dX4_score_49 : decode cX4_score 49 = .ok (.getfield 19, 3) := by decide +kernel
theorem dX4_score_52 : decode cX4_score 52 = .ok (.getfield 163, 3) := by decide +kernel
theorem dX4_score_55 : decode cX4_score 55 = .ok (.ireturn, 1) := by decide +kernel
theorem dX4_score_56 : decode cX4_score 56 = .ok (.aload_n 0, 1) := by decide +kernel
theorem dX4_score_57 : decode cX4_score 57 = .ok (.getfield 19, 3) := by decide +kernel
theorem dX4_score_60 : decode cX4_score 60 = .ok (.invokevirtual 166, 3) := by decide +kernel
theorem dX4_score_63 : decode cX4_score 63 = .ok (.ireturn, 1) := by decide +kernel
theorem dX4_score_64 : decode cX4_score 64 = .ok (.aload_n 0, 1) := by decide +kernel
theorem dX4_score_65 : decode cX4_score 65 = .ok (.getfield 19, 3) := by decide +kernel
theorem dX4_score_68 : decode cX4_score 68 = .ok (.invokevirtual 169, 3) := by decide +kernel
theorem dX4_score_71 : decode cX4_score 71 = .ok (.ireturn, 1) := by decide +kernel
theorem dX4_hand_0 : decode cX4_hand 0 = .ok (.aload_n 0, 1) := by decide +kernel
theorem dX4_hand_1 : decode cX4_hand 1 = .ok (.iload_n 1, 1) := by decide +kernel
theorem dX4_hand_2 : decode cX4_hand 2 = .ok (.invokevirtual 111, 3) := by decide +kernel
theorem dX4_hand_5 : decode cX4_hand 5 = .ok (.ifCond .eq 11, 3) := by decide +kernel
theorem dX4_hand_8 : decode cX4_hand 8 = .ok (.aload_n 0, 1) := by decide +kernel
theorem dX4_hand_9 : decode cX4_hand 9 = .ok (.iload_n 2, 1) := by decide +kernel
theorem dX4_hand_10 : decode cX4_hand 10 = .ok (.invokevirtual 89, 3) := by decide +kernel
theorem dX4_hand_13 : decode cX4_hand 13 = .ok (.ifCond .ne 5, 3) := by decide +kernel
theorem dX4_hand_16 : decode cX4_hand 16 = .ok (.iconst (-1), 1) := by decide +kernel
theorem dX4_hand_17 : decode cX4_hand 17 = .ok (.ireturn, 1) := by decide +kernel
theorem dX4_hand_18 : decode cX4_hand 18 = .ok (.aload_n 0, 1) := by decide +kernel
theorem dX4_hand_19 : decode cX4_hand 19 = .ok (.invokevirtual 159, 3) := by decide +kernel
theorem dX4_hand_22 : decode cX4_hand 22 = .ok (.ifCond .eq 15, 3) := by decide +kernel
theorem dX4_hand_25 : decode cX4_hand 25 = .ok (.aload_n 0, 1) := by decide +kernel
theorem dX4_hand_26 : decode cX4_hand 26 = .ok (.getfield 19, 3) := by decide +kernel
theorem dX4_hand_29 : decode cX4_hand 29 = .ok (.iload_n 1, 1) := by decide +kernel
theorem dX4_hand_30 : decode cX4_hand 30 = .ok (.iload_n 2, 1) := by decide +kernel
theorem dX4_hand_31 : decode cX4_hand 31 = .ok (.invokevirtual 172, 3) := by decide +kernel
theorem dX4_hand_34 : decode cX4_hand 34 = .ok (.goto 5, 3) := by decide +kernel
theorem dX4_hand_37 : decode cX4_hand 37 = .ok (.bipush (-9), 2) := by decide +kernel
theorem dX4_hand_39 : decode cX4_hand 39 = .ok (.ireturn, 1) := by decide +kernel
theorem dX4_loud_0 : decode cX4_loud 0 = .ok (.aload_n 0, 1) := by decide +kernel
theorem dX4_loud_1 : decode cX4_loud 1 = .ok (.iload_n 1, 1) := by decide +kernel
theorem dX4_loud_2 : decode cX4_loud 2 = .ok (.invokevirtual 111, 3) := by decide +kernel
theorem dX4_loud_5 : decode cX4_loud 5 = .ok (.ifCond .eq 19, 3) := by decide +kernel
theorem dX4_loud_8 : decode cX4_loud 8 = .ok (.iload_n 2, 1) := by decide +kernel
theorem dX4_loud_9 : decode cX4_loud 9 = .ok (.ifCond .lt 15, 3) := by decide +kernel
theorem dX4_loud_12 : decode cX4_loud 12 = .ok (.iload_n 2, 1) := by decide +kernel
theorem dX4_loud_13 : decode cX4_loud 13 = .ok (.aload_n 0, 1) := by decide +kernel
theorem dX4_loud_14 : decode cX4_loud 14 = .ok (.getfield 32, 3) := by decide +kernel
theorem dX4_loud_17 : decode cX4_loud 17 = .ok (.iload_n 1, 1) := by decide +kernel
theorem dX4_loud_18 : decode cX4_loud 18 = .ok (.invokevirtual 114, 3) := by decide +kernel
theorem dX4_loud_21 : decode cX4_loud 21 = .ok (.if_icmp .lt 5, 3) := by decide +kernel
theorem dX4_loud_24 : decode cX4_loud 24 = .ok (.iconst (-1), 1) := by decide +kernel
theorem dX4_loud_25 : decode cX4_loud 25 = .ok (.ireturn, 1) := by decide +kernel
theorem dX4_loud_26 : decode cX4_loud 26 = .ok (.aload_n 0, 1) := by decide +kernel
theorem dX4_loud_27 : decode cX4_loud 27 = .ok (.invokevirtual 159, 3) := by decide +kernel
theorem dX4_loud_30 : decode cX4_loud 30 = .ok (.ifCond .eq 16, 3) := by decide +kernel
theorem dX4_loud_33 : decode cX4_loud 33 = .ok (.aload_n 0, 1) := by decide +kernel
theorem dX4_loud_34 : decode cX4_loud 34 = .ok (.getfield 19, 3) := by decide +kernel
theorem dX4_loud_37 : decode cX4_loud 37 = .ok (.iload_n 1, 1) := by decide +kernel
theorem dX4_loud_38 : decode cX4_loud 38 = .ok (.iload_n 2, 1) := by decide +kernel
theorem dX4_loud_39 : decode cX4_loud 39 = .ok (.iconst 4, 1) := by decide +kernel
theorem dX4_loud_40 : decode cX4_loud 40 = .ok (.invokevirtual 175, 3) := by decide +kernel
theorem dX4_loud_43 : decode cX4_loud 43 = .ok (.goto 5, 3) := by decide +kernel
theorem dX4_loud_46 : decode cX4_loud 46 = .ok (.bipush (-9), 2) := by decide +kernel
theorem dX4_loud_48 : decode cX4_loud 48 = .ok (.ireturn, 1) := by decide +kernel
theorem dX4_couldRest_0 : decode cX4_couldRest 0 = .ok (.aload_n 0, 1) := by decide +kernel
theorem dX4_couldRest_1 : decode cX4_couldRest 1 = .ok (.iload_n 1, 1) := by decide +kernel
theorem dX4_couldRest_2 : decode cX4_couldRest 2 = .ok (.invokevirtual 111, 3) := by decide +kernel
theorem dX4_couldRest_5 : decode cX4_couldRest 5 = .ok (.ifCond .ne 5, 3) := by decide +kernel
theorem dX4_couldRest_8 : decode cX4_couldRest 8 = .ok (.iconst (-1), 1) := by decide +kernel
theorem dX4_couldRest_9 : decode cX4_couldRest 9 = .ok (.ireturn, 1) := by decide +kernel
theorem dX4_couldRest_10 : decode cX4_couldRest 10 = .ok (.aload_n 0, 1) := by decide +kernel
theorem dX4_couldRest_11 : decode cX4_couldRest 11 = .ok (.invokevirtual 159, 3) := by decide +kernel
theorem dX4_couldRest_14 : decode cX4_couldRest 14 = .ok (.ifCond .ne 6, 3) := by decide +kernel
theorem dX4_couldRest_17 : decode cX4_couldRest 17 = .ok (.bipush (-9), 2) := by decide +kernel
theorem dX4_couldRest_19 : decode cX4_couldRest 19 = .ok (.ireturn, 1) := by decide +kernel
theorem dX4_couldRest_20 : decode cX4_couldRest 20 = .ok (.iconst 0, 1) := by decide +kernel
theorem dX4_couldRest_21 : decode cX4_couldRest 21 = .ok (.istore_n 2, 1) := by decide +kernel
theorem dX4_couldRest_22 : decode cX4_couldRest 22 = .ok (.iconst 0, 1) := by decide +kernel
theorem dX4_couldRest_23 : decode cX4_couldRest 23 = .ok (.istore_n 3, 1) := by decide +kernel
theorem dX4_couldRest_24 : decode cX4_couldRest 24 = .ok (.iload_n 3, 1) := by decide +kernel
theorem dX4_couldRest_25 : decode cX4_couldRest 25 = .ok (.aload_n 0, 1) := by decide +kernel
theorem dX4_couldRest_26 : decode cX4_couldRest 26 = .ok (.getfield 27, 3) := by decide +kernel
theorem dX4_couldRest_29 : decode cX4_couldRest 29 = .ok (.getfield 179, 3) := by decide +kernel
theorem dX4_couldRest_32 : decode cX4_couldRest 32 = .ok (.if_icmp .ge 39, 3) := by decide +kernel
theorem dX4_couldRest_35 : decode cX4_couldRest 35 = .ok (.aload_n 0, 1) := by decide +kernel
theorem dX4_couldRest_36 : decode cX4_couldRest 36 = .ok (.getfield 19, 3) := by decide +kernel
theorem dX4_couldRest_39 : decode cX4_couldRest 39 = .ok (.iload_n 1, 1) := by decide +kernel
theorem dX4_couldRest_40 : decode cX4_couldRest 40 = .ok (.iload_n 3, 1) := by decide +kernel
theorem dX4_couldRest_41 : decode cX4_couldRest 41 = .ok (.invokevirtual 172, 3) := by decide +kernel
theorem dX4_couldRest_44 : decode cX4_couldRest 44 = .ok (.ifCond .eq 21, 3) := by decide +kernel
theorem dX4_couldRest_47 : decode cX4_couldRest 47 = .ok (.aload_n 0, 1) := by decide +kernel
theorem dX4_couldRest_48 : decode cX4_couldRest 48 = .ok (.getfield 19, 3) := by decide +kernel
theorem dX4_couldRest_51 : decode cX4_couldRest 51 = .ok (.iload_n 1, 1) := by decide +kernel
theorem dX4_couldRest_52 : decode cX4_couldRest 52 = .ok (.iload_n 3, 1) := by decide +kernel
theorem dX4_couldRest_53 : decode cX4_couldRest 53 = .ok (.invokevirtual 180, 3) := by decide +kernel
theorem dX4_couldRest_56 : decode cX4_couldRest 56 = .ok (.ifCond .eq 9, 3) := by decide +kernel
theorem dX4_couldRest_59 : decode cX4_couldRest 59 = .ok (.iload_n 2, 1) := by decide +kernel
theorem dX4_couldRest_60 : decode cX4_couldRest 60 = .ok (.iconst 1, 1) := by decide +kernel
theorem dX4_couldRest_61 : decode cX4_couldRest 61 = .ok (.iload_n 3, 1) := by decide +kernel
theorem dX4_couldRest_62 : decode cX4_couldRest 62 = .ok (.ishl, 1) := by decide +kernel
theorem dX4_couldRest_63 : decode cX4_couldRest 63 = .ok (.ior, 1) := by decide +kernel
theorem dX4_couldRest_64 : decode cX4_couldRest 64 = .ok (.istore_n 2, 1) := by decide +kernel
theorem dX4_couldRest_65 : decode cX4_couldRest 65 = .ok (.iinc 3 1, 3) := by decide +kernel
theorem dX4_couldRest_68 : decode cX4_couldRest 68 = .ok (.goto (-44), 3) := by decide +kernel
theorem dX4_couldRest_71 : decode cX4_couldRest 71 = .ok (.iload_n 2, 1) := by decide +kernel
theorem dX4_couldRest_72 : decode cX4_couldRest 72 = .ok (.ireturn, 1) := by decide +kernel
theorem dX4_move_0 : decode cX4_move 0 = .ok (.aload_n 0, 1) := by decide +kernel
theorem dX4_move_1 : decode cX4_move 1 = .ok (.iload_n 1, 1) := by decide +kernel
theorem dX4_move_2 : decode cX4_move 2 = .ok (.invokevirtual 111, 3) := by decide +kernel
theorem dX4_move_5 : decode cX4_move 5 = .ok (.ifCond .eq 24, 3) := by decide +kernel
theorem dX4_move_8 : decode cX4_move 8 = .ok (.iload_n 1, 1) := by decide +kernel
theorem dX4_move_9 : decode cX4_move 9 = .ok (.aload_n 0, 1) := by decide +kernel
theorem dX4_move_10 : decode cX4_move 10 = .ok (.getfield 32, 3) := by decide +kernel
theorem dX4_move_13 : decode cX4_move 13 = .ok (.getfield 122, 3) := by decide +kernel
theorem dX4_move_16 : decode cX4_move 16 = .ok (.iconst 1, 1) := by decide +kernel
theorem dX4_move_17 : decode cX4_move 17 = .ok (.isub, 1) := by decide +kernel
theorem dX4_move_18 : decode cX4_move 18 = .ok (.if_icmp .eq 11, 3) := by decide +kernel
theorem dX4_move_21 : decode cX4_move 21 = .ok (.aload_n 0, 1) := by decide +kernel
theorem dX4_move_22 : decode cX4_move 22 = .ok (.iload_n 2, 1) := by decide +kernel
theorem dX4_move_23 : decode cX4_move 23 = .ok (.invokevirtual 89, 3) := by decide +kernel
theorem dX4_move_26 : decode cX4_move 26 = .ok (.ifCond .ne 5, 3) := by decide +kernel
theorem dX4_move_29 : decode cX4_move 29 = .ok (.iconst (-1), 1) := by decide +kernel
theorem dX4_move_30 : decode cX4_move 30 = .ok (.ireturn, 1) := by decide +kernel
theorem dX4_move_31 : decode cX4_move 31 = .ok (.aload_n 0, 1) := by decide +kernel
theorem dX4_move_32 : decode cX4_move 32 = .ok (.invokevirtual 159, 3) := by decide +kernel
theorem dX4_move_35 : decode cX4_move 35 = .ok (.ifCond .ne 6, 3) := by decide +kernel
theorem dX4_move_38 : decode cX4_move 38 = .ok (.bipush (-9), 2) := by decide +kernel
theorem dX4_move_40 : decode cX4_move 40 = .ok (.ireturn, 1) := by decide +kernel
theorem dX4_move_41 : decode cX4_move 41 = .ok (.aload_n 0, 1) := by decide +kernel
theorem dX4_move_42 : decode cX4_move 42 = .ok (.getfield 19, 3) := by decide +kernel
theorem dX4_move_45 : decode cX4_move 45 = .ok (.iload_n 2, 1) := by decide +kernel
theorem dX4_move_46 : decode cX4_move 46 = .ok (.iload_n 1, 1) := by decide +kernel
theorem dX4_move_47 : decode cX4_move 47 = .ok (.aload_n 0, 1) := by decide +kernel
theorem dX4_move_48 : decode cX4_move 48 = .ok (.getfield 19, 3) := by decide +kernel
theorem dX4_move_51 : decode cX4_move 51 = .ok (.iload_n 1, 1) := by decide +kernel
theorem dX4_move_52 : decode cX4_move 52 = .ok (.iload_n 2, 1) := by decide +kernel
theorem dX4_move_53 : decode cX4_move 53 = .ok (.invokevirtual 172, 3) := by decide +kernel
theorem dX4_move_56 : decode cX4_move 56 = .ok (.iload_n 1, 1) := by decide +kernel
theorem dX4_move_57 : decode cX4_move 57 = .ok (.iconst 1, 1) := by decide +kernel
theorem dX4_move_58 : decode cX4_move 58 = .ok (.iadd, 1) := by decide +kernel
theorem dX4_move_59 : decode cX4_move 59 = .ok (.aload_n 0, 1) := by decide +kernel
theorem dX4_move_60 : decode cX4_move 60 = .ok (.getfield 19, 3) := by decide +kernel
theorem dX4_move_63 : decode cX4_move 63 = .ok (.iload_n 1, 1) := by decide +kernel
theorem dX4_move_64 : decode cX4_move 64 = .ok (.iconst 1, 1) := by decide +kernel
theorem dX4_move_65 : decode cX4_move 65 = .ok (.iadd, 1) := by decide +kernel
theorem dX4_move_66 : decode cX4_move 66 = .ok (.iload_n 2, 1) := by decide +kernel
theorem dX4_move_67 : decode cX4_move 67 = .ok (.invokevirtual 172, 3) := by decide +kernel
theorem dX4_move_70 : decode cX4_move 70 = .ok (.invokevirtual 184, 3) := by decide +kernel
theorem dX4_move_73 : decode cX4_move 73 = .ok (.ireturn, 1) := by decide +kernel
theorem dX4_reach_0 : decode cX4_reach 0 = .ok (.aload_n 0, 1) := by decide +kernel
theorem dX4_reach_1 : decode cX4_reach 1 = .ok (.getfield 19, 3) := by decide +kernel
theorem dX4_reach_4 : decode cX4_reach 4 = .ok (.aload_n 0, 1) := by decide +kernel
theorem dX4_reach_5 : decode cX4_reach 5 = .ok (.getfield 32, 3) := by decide +kernel
theorem dX4_reach_8 : decode cX4_reach 8 = .ok (.getfield 105, 3) := by decide +kernel
theorem dX4_reach_11 : decode cX4_reach 11 = .ok (.invokevirtual 188, 3) := by decide +kernel
theorem dX4_reach_14 : decode cX4_reach 14 = .ok (.iconst 0, 1) := by decide +kernel
theorem dX4_reach_15 : decode cX4_reach 15 = .ok (.istore_n 1, 1) := by decide +kernel
theorem dX4_reach_16 : decode cX4_reach 16 = .ok (.iload_n 1, 1) := by decide +kernel
theorem dX4_reach_17 : decode cX4_reach 17 = .ok (.aload_n 0, 1) := by decide +kernel
theorem dX4_reach_18 : decode cX4_reach 18 = .ok (.getfield 32, 3) := by decide +kernel
theorem dX4_reach_21 : decode cX4_reach 21 = .ok (.getfield 122, 3) := by decide +kernel
theorem dX4_reach_24 : decode cX4_reach 24 = .ok (.if_icmp .ge 29, 3) := by decide +kernel
theorem dX4_reach_27 : decode cX4_reach 27 = .ok (.aload_n 0, 1) := by decide +kernel
theorem dX4_reach_28 : decode cX4_reach 28 = .ok (.getfield 19, 3) := by decide +kernel
theorem dX4_reach_31 : decode cX4_reach 31 = .ok (.iload_n 1, 1) := by decide +kernel
theorem dX4_reach_32 : decode cX4_reach 32 = .ok (.iconst 1, 1) := by decide +kernel
theorem dX4_reach_33 : decode cX4_reach 33 = .ok (.iadd, 1) := by decide +kernel
theorem dX4_reach_34 : decode cX4_reach 34 = .ok (.invokevirtual 191, 3) := by decide +kernel
theorem dX4_reach_37 : decode cX4_reach 37 = .ok (.aload_n 0, 1) := by decide +kernel
theorem dX4_reach_38 : decode cX4_reach 38 = .ok (.getfield 32, 3) := by decide +kernel
theorem dX4_reach_41 : decode cX4_reach 41 = .ok (.getfield 149, 3) := by decide +kernel
theorem dX4_reach_44 : decode cX4_reach 44 = .ok (.if_icmp .gt 9, 3) := by decide +kernel
theorem dX4_reach_47 : decode cX4_reach 47 = .ok (.iinc 1 1, 3) := by decide +kernel
theorem dX4_reach_50 : decode cX4_reach 50 = .ok (.goto (-34), 3) := by decide +kernel
theorem dX4_reach_53 : decode cX4_reach 53 = .ok (.iload_n 1, 1) := by decide +kernel
theorem dX4_reach_54 : decode cX4_reach 54 = .ok (.ireturn, 1) := by decide +kernel
theorem dX4_fewest_0 : decode cX4_fewest 0 = .ok (.iconst 0, 1) := by decide +kernel
theorem dX4_fewest_1 : decode cX4_fewest 1 = .ok (.istore_n 1, 1) := by decide +kernel
theorem dX4_fewest_2 : decode cX4_fewest 2 = .ok (.iload_n 1, 1) := by decide +kernel
theorem dX4_fewest_3 : decode cX4_fewest 3 = .ok (.aload_n 0, 1) := by decide +kernel
theorem dX4_fewest_4 : decode cX4_fewest 4 = .ok (.getfield 27, 3) := by decide +kernel
theorem dX4_fewest_7 : decode cX4_fewest 7 = .ok (.getfield 179, 3) := by decide +kernel
theorem dX4_fewest_10 : decode cX4_fewest 10 = .ok (.if_icmp .gt 48, 3) := by decide +kernel
theorem dX4_fewest_13 : decode cX4_fewest 13 = .ok (.iconst 0, 1) := by decide +kernel
theorem dX4_fewest_14 : decode cX4_fewest 14 = .ok (.istore_n 2, 1) := by decide +kernel
theorem dX4_fewest_15 : decode cX4_fewest 15 = .ok (.iload_n 2, 1) := by decide +kernel
theorem dX4_fewest_16 : decode cX4_fewest 16 = .ok (.iconst 1, 1) := by decide +kernel
theorem dX4_fewest_17 : decode cX4_fewest 17 = .ok (.aload_n 0, 1) := by decide +kernel
theorem dX4_fewest_18 : decode cX4_fewest 18 = .ok (.getfield 27, 3) := by decide +kernel
theorem dX4_fewest_21 : decode cX4_fewest 21 = .ok (.getfield 179, 3) := by decide +kernel
theorem dX4_fewest_24 : decode cX4_fewest 24 = .ok (.ishl, 1) := by decide +kernel
theorem dX4_fewest_25 : decode cX4_fewest 25 = .ok (.if_icmp .ge 27, 3) := by decide +kernel
theorem dX4_fewest_28 : decode cX4_fewest 28 = .ok (.iload_n 2, 1) := by decide +kernel
theorem dX4_fewest_29 : decode cX4_fewest 29 = .ok (.invokestatic 194, 3) := by decide +kernel
theorem dX4_fewest_32 : decode cX4_fewest 32 = .ok (.iload_n 1, 1) := by decide +kernel
theorem dX4_fewest_33 : decode cX4_fewest 33 = .ok (.if_icmp .ne 13, 3) := by decide +kernel
theorem dX4_fewest_36 : decode cX4_fewest 36 = .ok (.aload_n 0, 1) := by decide +kernel
theorem dX4_fewest_37 : decode cX4_fewest 37 = .ok (.iload_n 2, 1) := by decide +kernel
theorem dX4_fewest_38 : decode cX4_fewest 38 = .ok (.invokevirtual 199, 3) := by decide +kernel
theorem dX4_fewest_41 : decode cX4_fewest 41 = .ok (.ifCond .eq 5, 3) := by decide +kernel
theorem dX4_fewest_44 : decode cX4_fewest 44 = .ok (.iload_n 2, 1) := by decide +kernel
theorem dX4_fewest_45 : decode cX4_fewest 45 = .ok (.ireturn, 1) := by decide +kernel
theorem dX4_fewest_46 : decode cX4_fewest 46 = .ok (.iinc 2 1, 3) := by decide +kernel
theorem dX4_fewest_49 : decode cX4_fewest 49 = .ok (.goto (-34), 3) := by decide +kernel
theorem dX4_fewest_52 : decode cX4_fewest 52 = .ok (.iinc 1 1, 3) := by decide +kernel
theorem dX4_fewest_55 : decode cX4_fewest 55 = .ok (.goto (-53), 3) := by decide +kernel
theorem dX4_fewest_58 : decode cX4_fewest 58 = .ok (.bipush (-9), 2) := by decide +kernel
theorem dX4_fewest_60 : decode cX4_fewest 60 = .ok (.ireturn, 1) := by decide +kernel
theorem dX4_bear_0 : decode cX4_bear 0 = .ok (.aload_n 0, 1) := by decide +kernel
theorem dX4_bear_1 : decode cX4_bear 1 = .ok (.getfield 19, 3) := by decide +kernel
theorem dX4_bear_4 : decode cX4_bear 4 = .ok (.aload_n 0, 1) := by decide +kernel
theorem dX4_bear_5 : decode cX4_bear 5 = .ok (.getfield 32, 3) := by decide +kernel
theorem dX4_bear_8 : decode cX4_bear 8 = .ok (.getfield 105, 3) := by decide +kernel
theorem dX4_bear_11 : decode cX4_bear 11 = .ok (.invokevirtual 188, 3) := by decide +kernel
theorem dX4_bear_14 : decode cX4_bear 14 = .ok (.aload_n 0, 1) := by decide +kernel
theorem dX4_bear_15 : decode cX4_bear 15 = .ok (.getfield 19, 3) := by decide +kernel
theorem dX4_bear_18 : decode cX4_bear 18 = .ok (.aload_n 0, 1) := by decide +kernel
theorem dX4_bear_19 : decode cX4_bear 19 = .ok (.getfield 32, 3) := by decide +kernel
theorem dX4_bear_22 : decode cX4_bear 22 = .ok (.getfield 122, 3) := by decide +kernel
theorem dX4_bear_25 : decode cX4_bear 25 = .ok (.invokevirtual 191, 3) := by decide +kernel
theorem dX4_bear_28 : decode cX4_bear 28 = .ok (.istore_n 1, 1) := by decide +kernel
theorem dX4_bear_29 : decode cX4_bear 29 = .ok (.iload_n 1, 1) := by decide +kernel
theorem dX4_bear_30 : decode cX4_bear 30 = .ok (.bipush 30, 2) := by decide +kernel
theorem dX4_bear_32 : decode cX4_bear 32 = .ok (.if_icmp .gt 7, 3) := by decide +kernel
theorem dX4_bear_35 : decode cX4_bear 35 = .ok (.iload_n 1, 1) := by decide +kernel
theorem dX4_bear_36 : decode cX4_bear 36 = .ok (.goto 5, 3) := by decide +kernel
theorem dX4_bear_39 : decode cX4_bear 39 = .ok (.bipush (-9), 2) := by decide +kernel
theorem dX4_bear_41 : decode cX4_bear 41 = .ok (.ireturn, 1) := by decide +kernel
theorem dX4_hears_0 : decode cX4_hears 0 = .ok (.aload_n 0, 1) := by decide +kernel
theorem dX4_hears_1 : decode cX4_hears 1 = .ok (.iload_n 1, 1) := by decide +kernel
theorem dX4_hears_2 : decode cX4_hears 2 = .ok (.invokevirtual 111, 3) := by decide +kernel
theorem dX4_hears_5 : decode cX4_hears 5 = .ok (.ifCond .eq 12, 3) := by decide +kernel
theorem dX4_hears_8 : decode cX4_hears 8 = .ok (.iload_n 2, 1) := by decide +kernel
theorem dX4_hears_9 : decode cX4_hears 9 = .ok (.iconst 0, 1) := by decide +kernel
theorem dX4_hears_10 : decode cX4_hears 10 = .ok (.iconst 1, 1) := by decide +kernel
theorem dX4_hears_11 : decode cX4_hears 11 = .ok (.invokestatic 143, 3) := by decide +kernel
theorem dX4_hears_14 : decode cX4_hears 14 = .ok (.ifCond .ne 5, 3) := by decide +kernel
theorem dX4_hears_17 : decode cX4_hears 17 = .ok (.iconst (-1), 1) := by decide +kernel
theorem dX4_hears_18 : decode cX4_hears 18 = .ok (.ireturn, 1) := by decide +kernel
theorem dX4_hears_19 : decode cX4_hears 19 = .ok (.aload_n 0, 1) := by decide +kernel
theorem dX4_hears_20 : decode cX4_hears 20 = .ok (.getfield 59, 3) := by decide +kernel
theorem dX4_hears_23 : decode cX4_hears 23 = .ok (.bipush 6, 2) := by decide +kernel
theorem dX4_hears_25 : decode cX4_hears 25 = .ok (.if_icmp .lt 6, 3) := by decide +kernel
theorem dX4_hears_28 : decode cX4_hears 28 = .ok (.bipush (-3), 2) := by decide +kernel
theorem dX4_hears_30 : decode cX4_hears 30 = .ok (.ireturn, 1) := by decide +kernel
theorem dX4_hears_31 : decode cX4_hears 31 = .ok (.aload_n 0, 1) := by decide +kernel
theorem dX4_hears_32 : decode cX4_hears 32 = .ok (.getfield 52, 3) := by decide +kernel
theorem dX4_hears_35 : decode cX4_hears 35 = .ok (.aload_n 0, 1) := by decide +kernel
theorem dX4_hears_36 : decode cX4_hears 36 = .ok (.getfield 59, 3) := by decide +kernel
theorem dX4_hears_39 : decode cX4_hears 39 = .ok (.iload_n 1, 1) := by decide +kernel
theorem dX4_hears_40 : decode cX4_hears 40 = .ok (.iastore, 1) := by decide +kernel
theorem dX4_hears_41 : decode cX4_hears 41 = .ok (.aload_n 0, 1) := by decide +kernel
theorem dX4_hears_42 : decode cX4_hears 42 = .ok (.getfield 56, 3) := by decide +kernel
theorem dX4_hears_45 : decode cX4_hears 45 = .ok (.aload_n 0, 1) := by decide +kernel
theorem dX4_hears_46 : decode cX4_hears 46 = .ok (.getfield 59, 3) := by decide +kernel
theorem dX4_hears_49 : decode cX4_hears 49 = .ok (.iload_n 2, 1) := by decide +kernel
theorem dX4_hears_50 : decode cX4_hears 50 = .ok (.iastore, 1) := by decide +kernel
theorem dX4_hears_51 : decode cX4_hears 51 = .ok (.aload_n 0, 1) := by decide +kernel
theorem dX4_hears_52 : decode cX4_hears 52 = .ok (.dup, 1) := by decide +kernel
theorem dX4_hears_53 : decode cX4_hears 53 = .ok (.getfield 59, 3) := by decide +kernel
theorem dX4_hears_56 : decode cX4_hears 56 = .ok (.iconst 1, 1) := by decide +kernel
theorem dX4_hears_57 : decode cX4_hears 57 = .ok (.iadd, 1) := by decide +kernel
theorem dX4_hears_58 : decode cX4_hears 58 = .ok (.putfield 59, 3) := by decide +kernel
theorem dX4_hears_61 : decode cX4_hears 61 = .ok (.aload_n 0, 1) := by decide +kernel
theorem dX4_hears_62 : decode cX4_hears 62 = .ok (.getfield 59, 3) := by decide +kernel
theorem dX4_hears_65 : decode cX4_hears 65 = .ok (.ireturn, 1) := by decide +kernel
theorem dX4_forget_0 : decode cX4_forget 0 = .ok (.aload_n 0, 1) := by decide +kernel
theorem dX4_forget_1 : decode cX4_forget 1 = .ok (.getfield 59, 3) := by decide +kernel
theorem dX4_forget_4 : decode cX4_forget 4 = .ok (.istore_n 1, 1) := by decide +kernel
theorem dX4_forget_5 : decode cX4_forget 5 = .ok (.aload_n 0, 1) := by decide +kernel
theorem dX4_forget_6 : decode cX4_forget 6 = .ok (.iconst 0, 1) := by decide +kernel
theorem dX4_forget_7 : decode cX4_forget 7 = .ok (.putfield 59, 3) := by decide +kernel
theorem dX4_forget_10 : decode cX4_forget 10 = .ok (.iload_n 1, 1) := by decide +kernel
theorem dX4_forget_11 : decode cX4_forget 11 = .ok (.ireturn, 1) := by decide +kernel
theorem dX4_ill_0 : decode cX4_ill 0 = .ok (.iconst 0, 1) := by decide +kernel
theorem dX4_ill_1 : decode cX4_ill 1 = .ok (.istore_n 1, 1) := by decide +kernel
theorem dX4_ill_2 : decode cX4_ill 2 = .ok (.iconst 0, 1) := by decide +kernel
theorem dX4_ill_3 : decode cX4_ill 3 = .ok (.istore_n 2, 1) := by decide +kernel
theorem dX4_ill_4 : decode cX4_ill 4 = .ok (.iload_n 2, 1) := by decide +kernel
theorem dX4_ill_5 : decode cX4_ill 5 = .ok (.aload_n 0, 1) := by decide +kernel
theorem dX4_ill_6 : decode cX4_ill 6 = .ok (.getfield 27, 3) := by decide +kernel
theorem dX4_ill_9 : decode cX4_ill 9 = .ok (.getfield 179, 3) := by decide +kernel
theorem dX4_ill_12 : decode cX4_ill 12 = .ok (.if_icmp .ge 50, 3) := by decide +kernel
theorem dX4_ill_15 : decode cX4_ill 15 = .ok (.aload_n 0, 1) := by decide +kernel
theorem dX4_ill_16 : decode cX4_ill 16 = .ok (.getfield 32, 3) := by decide +kernel
theorem dX4_ill_19 : decode cX4_ill 19 = .ok (.getfield 105, 3) := by decide +kernel
theorem dX4_ill_22 : decode cX4_ill 22 = .ok (.iload_n 2, 1) := by decide +kernel
theorem dX4_ill_23 : decode cX4_ill 23 = .ok (.ishr, 1) := by decide +kernel
theorem dX4_ill_24 : decode cX4_ill 24 = .ok (.iconst 1, 1) := by decide +kernel
theorem dX4_ill_25 : decode cX4_ill 25 = .ok (.iand, 1) := by decide +kernel
theorem dX4_ill_26 : decode cX4_ill 26 = .ok (.iconst 1, 1) := by decide +kernel
theorem dX4_ill_27 : decode cX4_ill 27 = .ok (.if_icmp .ne 29, 3) := by decide +kernel
theorem dX4_ill_30 : decode cX4_ill 30 = .ok (.aload_n 0, 1) := by decide +kernel
theorem dX4_ill_31 : decode cX4_ill 31 = .ok (.aload_n 0, 1) := by decide +kernel
theorem dX4_ill_32 : decode cX4_ill 32 = .ok (.getfield 32, 3) := by decide +kernel
theorem dX4_ill_35 : decode cX4_ill 35 = .ok (.getfield 105, 3) := by decide +kernel
theorem dX4_ill_38 : decode cX4_ill 38 = .ok (.iconst 1, 1) := by decide +kernel
theorem dX4_ill_39 : decode cX4_ill 39 = .ok (.iload_n 2, 1) := by decide +kernel
theorem dX4_ill_40 : decode cX4_ill 40 = .ok (.ishl, 1) := by decide +kernel
theorem dX4_ill_41 : decode cX4_ill 41 = .ok (.iconst (-1), 1) := by decide +kernel
theorem dX4_ill_42 : decode cX4_ill 42 = .ok (.ixor, 1) := by decide +kernel
theorem dX4_ill_43 : decode cX4_ill 43 = .ok (.iand, 1) := by decide +kernel
theorem dX4_ill_44 : decode cX4_ill 44 = .ok (.invokevirtual 202, 3) := by decide +kernel
theorem dX4_ill_47 : decode cX4_ill 47 = .ok (.ifCond .eq 9, 3) := by decide +kernel
theorem dX4_ill_50 : decode cX4_ill 50 = .ok (.iload_n 1, 1) := by decide +kernel
theorem dX4_ill_51 : decode cX4_ill 51 = .ok (.iconst 1, 1) := by decide +kernel
theorem dX4_ill_52 : decode cX4_ill 52 = .ok (.iload_n 2, 1) := by decide +kernel
theorem dX4_ill_53 : decode cX4_ill 53 = .ok (.ishl, 1) := by decide +kernel
theorem dX4_ill_54 : decode cX4_ill 54 = .ok (.ior, 1) := by decide +kernel
theorem dX4_ill_55 : decode cX4_ill 55 = .ok (.istore_n 1, 1) := by decide +kernel
theorem dX4_ill_56 : decode cX4_ill 56 = .ok (.iinc 2 1, 3) := by decide +kernel
theorem dX4_ill_59 : decode cX4_ill 59 = .ok (.goto (-55), 3) := by decide +kernel
theorem dX4_ill_62 : decode cX4_ill 62 = .ok (.iload_n 1, 1) := by decide +kernel
theorem dX4_ill_63 : decode cX4_ill 63 = .ok (.ireturn, 1) := by decide +kernel
theorem dX4_keep_0 : decode cX4_keep 0 = .ok (.iload_n 1, 1) := by decide +kernel
theorem dX4_keep_1 : decode cX4_keep 1 = .ok (.iconst 0, 1) := by decide +kernel
theorem dX4_keep_2 : decode cX4_keep 2 = .ok (.iconst 1, 1) := by decide +kernel
theorem dX4_keep_3 : decode cX4_keep 3 = .ok (.invokestatic 143, 3) := by decide +kernel
theorem dX4_keep_6 : decode cX4_keep 6 = .ok (.ifCond .ne 5, 3) := by decide +kernel
theorem dX4_keep_9 : decode cX4_keep 9 = .ok (.iconst (-1), 1) := by decide +kernel
theorem dX4_keep_10 : decode cX4_keep 10 = .ok (.ireturn, 1) := by decide +kernel
theorem dX4_keep_11 : decode cX4_keep 11 = .ok (.aload_n 0, 1) := by decide +kernel
theorem dX4_keep_12 : decode cX4_keep 12 = .ok (.getfield 45, 3) := by decide +kernel
theorem dX4_keep_15 : decode cX4_keep 15 = .ok (.iload_n 1, 1) := by decide +kernel
theorem dX4_keep_16 : decode cX4_keep 16 = .ok (.aaload, 1) := by decide +kernel
theorem dX4_keep_17 : decode cX4_keep 17 = .ok (.aload_n 0, 1) := by decide +kernel
theorem dX4_keep_18 : decode cX4_keep 18 = .ok (.getfield 32, 3) := by decide +kernel
theorem dX4_keep_21 : decode cX4_keep 21 = .ok (.invokevirtual 86, 3) := by decide +kernel
theorem dX4_keep_24 : decode cX4_keep 24 = .ok (.aload_n 0, 1) := by decide +kernel
theorem dX4_keep_25 : decode cX4_keep 25 = .ok (.getfield 48, 3) := by decide +kernel
theorem dX4_keep_28 : decode cX4_keep 28 = .ok (.iload_n 1, 1) := by decide +kernel
theorem dX4_keep_29 : decode cX4_keep 29 = .ok (.iconst 1, 1) := by decide +kernel
theorem dX4_keep_30 : decode cX4_keep 30 = .ok (.bastore, 1) := by decide +kernel
theorem dX4_keep_31 : decode cX4_keep 31 = .ok (.aload_n 0, 1) := by decide +kernel
theorem dX4_keep_32 : decode cX4_keep 32 = .ok (.getfield 32, 3) := by decide +kernel
theorem dX4_keep_35 : decode cX4_keep 35 = .ok (.getfield 122, 3) := by decide +kernel
theorem dX4_keep_38 : decode cX4_keep 38 = .ok (.ireturn, 1) := by decide +kernel
theorem dX4_back_0 : decode cX4_back 0 = .ok (.iload_n 1, 1) := by decide +kernel
theorem dX4_back_1 : decode cX4_back 1 = .ok (.iconst 0, 1) := by decide +kernel
theorem dX4_back_2 : decode cX4_back 2 = .ok (.iconst 1, 1) := by decide +kernel
theorem dX4_back_3 : decode cX4_back 3 = .ok (.invokestatic 143, 3) := by decide +kernel
theorem dX4_back_6 : decode cX4_back 6 = .ok (.ifCond .ne 5, 3) := by decide +kernel
theorem dX4_back_9 : decode cX4_back 9 = .ok (.iconst (-1), 1) := by decide +kernel
theorem dX4_back_10 : decode cX4_back 10 = .ok (.ireturn, 1) := by decide +kernel
theorem dX4_back_11 : decode cX4_back 11 = .ok (.aload_n 0, 1) := by decide +kernel
theorem dX4_back_12 : decode cX4_back 12 = .ok (.getfield 48, 3) := by decide +kernel
theorem dX4_back_15 : decode cX4_back 15 = .ok (.iload_n 1, 1) := by decide +kernel
theorem dX4_back_16 : decode cX4_back 16 = .ok (.baload, 1) := by decide +kernel
theorem dX4_back_17 : decode cX4_back 17 = .ok (.ifCond .ne 6, 3) := by decide +kernel
theorem dX4_back_20 : decode cX4_back 20 = .ok (.bipush (-2), 2) := by decide +kernel
theorem dX4_back_22 : decode cX4_back 22 = .ok (.ireturn, 1) := by decide +kernel
theorem dX4_back_23 : decode cX4_back 23 = .ok (.aload_n 0, 1) := by decide +kernel
theorem dX4_back_24 : decode cX4_back 24 = .ok (.getfield 32, 3) := by decide +kernel
theorem dX4_back_27 : decode cX4_back 27 = .ok (.aload_n 0, 1) := by decide +kernel
theorem dX4_back_28 : decode cX4_back 28 = .ok (.getfield 45, 3) := by decide +kernel
theorem dX4_back_31 : decode cX4_back 31 = .ok (.iload_n 1, 1) := by decide +kernel
theorem dX4_back_32 : decode cX4_back 32 = .ok (.aaload, 1) := by decide +kernel
theorem dX4_back_33 : decode cX4_back 33 = .ok (.invokevirtual 86, 3) := by decide +kernel
theorem dX4_back_36 : decode cX4_back 36 = .ok (.aload_n 0, 1) := by decide +kernel
theorem dX4_back_37 : decode cX4_back 37 = .ok (.iconst 0, 1) := by decide +kernel
theorem dX4_back_38 : decode cX4_back 38 = .ok (.putfield 41, 3) := by decide +kernel
theorem dX4_back_41 : decode cX4_back 41 = .ok (.aload_n 0, 1) := by decide +kernel
theorem dX4_back_42 : decode cX4_back 42 = .ok (.iconst 0, 1) := by decide +kernel
theorem dX4_back_43 : decode cX4_back 43 = .ok (.putfield 62, 3) := by decide +kernel
theorem dX4_back_46 : decode cX4_back 46 = .ok (.aload_n 0, 1) := by decide +kernel
theorem dX4_back_47 : decode cX4_back 47 = .ok (.getfield 32, 3) := by decide +kernel
theorem dX4_back_50 : decode cX4_back 50 = .ok (.getfield 122, 3) := by decide +kernel
theorem dX4_back_53 : decode cX4_back 53 = .ok (.ireturn, 1) := by decide +kernel
theorem dX4_count_0 : decode cX4_count 0 = .ok (.iload_n 1, 1) := by decide +kernel
theorem dX4_count_1 : decode cX4_count 1 = .ok (.tableswitch 105 0 7 #[47, 55, 63, 71, 79, 87, 92, 100], 47) := by decide +kernel
theorem dX4_count_48 : decode cX4_count 48 = .ok (.aload_n 0, 1) := by decide +kernel
theorem dX4_count_49 : decode cX4_count 49 = .ok (.getfield 27, 3) := by decide +kernel
theorem dX4_count_52 : decode cX4_count 52 = .ok (.getfield 179, 3) := by decide +kernel
theorem dX4_count_55 : decode cX4_count 55 = .ok (.ireturn, 1) := by decide +kernel
theorem dX4_count_56 : decode cX4_count 56 = .ok (.aload_n 0, 1) := by decide +kernel
theorem dX4_count_57 : decode cX4_count 57 = .ok (.getfield 32, 3) := by decide +kernel
theorem dX4_count_60 : decode cX4_count 60 = .ok (.getfield 105, 3) := by decide +kernel
theorem dX4_count_63 : decode cX4_count 63 = .ok (.ireturn, 1) := by decide +kernel
theorem dX4_count_64 : decode cX4_count 64 = .ok (.aload_n 0, 1) := by decide +kernel
theorem dX4_count_65 : decode cX4_count 65 = .ok (.getfield 32, 3) := by decide +kernel
theorem dX4_count_68 : decode cX4_count 68 = .ok (.getfield 122, 3) := by decide +kernel
theorem dX4_count_71 : decode cX4_count 71 = .ok (.ireturn, 1) := by decide +kernel
theorem dX4_count_72 : decode cX4_count 72 = .ok (.aload_n 0, 1) := by decide +kernel
theorem dX4_count_73 : decode cX4_count 73 = .ok (.getfield 32, 3) := by decide +kernel
theorem dX4_count_76 : decode cX4_count 76 = .ok (.getfield 146, 3) := by decide +kernel
theorem dX4_count_79 : decode cX4_count 79 = .ok (.ireturn, 1) := by decide +kernel
theorem dX4_count_80 : decode cX4_count 80 = .ok (.aload_n 0, 1) := by decide +kernel
theorem dX4_count_81 : decode cX4_count 81 = .ok (.getfield 32, 3) := by decide +kernel
theorem dX4_count_84 : decode cX4_count 84 = .ok (.getfield 149, 3) := by decide +kernel
theorem dX4_count_87 : decode cX4_count 87 = .ok (.ireturn, 1) := by decide +kernel
theorem dX4_count_88 : decode cX4_count 88 = .ok (.aload_n 0, 1) := by decide +kernel
theorem dX4_count_89 : decode cX4_count 89 = .ok (.getfield 59, 3) := by decide +kernel
theorem dX4_count_92 : decode cX4_count 92 = .ok (.ireturn, 1) := by decide +kernel
theorem dX4_count_93 : decode cX4_count 93 = .ok (.aload_n 0, 1) := by decide +kernel
theorem dX4_count_94 : decode cX4_count 94 = .ok (.getfield 10, 3) := by decide +kernel
theorem dX4_count_97 : decode cX4_count 97 = .ok (.getfield 67, 3) := by decide +kernel
theorem dX4_count_100 : decode cX4_count 100 = .ok (.ireturn, 1) := by decide +kernel
theorem dX4_count_101 : decode cX4_count 101 = .ok (.aload_n 0, 1) := by decide +kernel
theorem dX4_count_102 : decode cX4_count 102 = .ok (.getfield 41, 3) := by decide +kernel
theorem dX4_count_105 : decode cX4_count 105 = .ok (.ireturn, 1) := by decide +kernel
theorem dX4_count_106 : decode cX4_count 106 = .ok (.iconst (-1), 1) := by decide +kernel
theorem dX4_count_107 : decode cX4_count 107 = .ok (.ireturn, 1) := by decide +kernel
theorem dX4_isWithin_0 : decode cX4_isWithin 0 = .ok (.iload_n 0, 1) := by decide +kernel
theorem dX4_isWithin_1 : decode cX4_isWithin 1 = .ok (.iload_n 1, 1) := by decide +kernel
theorem dX4_isWithin_2 : decode cX4_isWithin 2 = .ok (.if_icmp .lt 12, 3) := by decide +kernel
theorem dX4_isWithin_5 : decode cX4_isWithin 5 = .ok (.iload_n 0, 1) := by decide +kernel
theorem dX4_isWithin_6 : decode cX4_isWithin 6 = .ok (.iload_n 2, 1) := by decide +kernel
theorem dX4_isWithin_7 : decode cX4_isWithin 7 = .ok (.if_icmp .gt 7, 3) := by decide +kernel
theorem dX4_isWithin_10 : decode cX4_isWithin 10 = .ok (.iconst 1, 1) := by decide +kernel
theorem dX4_isWithin_11 : decode cX4_isWithin 11 = .ok (.goto 4, 3) := by decide +kernel
theorem dX4_isWithin_14 : decode cX4_isWithin 14 = .ok (.iconst 0, 1) := by decide +kernel
theorem dX4_isWithin_15 : decode cX4_isWithin 15 = .ok (.ireturn, 1) := by decide +kernel
theorem dX4_isPlayer_0 : decode cX4_isPlayer 0 = .ok (.iload_n 1, 1) := by decide +kernel
theorem dX4_isPlayer_1 : decode cX4_isPlayer 1 = .ok (.ifCond .lt 18, 3) := by decide +kernel
theorem dX4_isPlayer_4 : decode cX4_isPlayer 4 = .ok (.iload_n 1, 1) := by decide +kernel
theorem dX4_isPlayer_5 : decode cX4_isPlayer 5 = .ok (.aload_n 0, 1) := by decide +kernel
theorem dX4_isPlayer_6 : decode cX4_isPlayer 6 = .ok (.getfield 27, 3) := by decide +kernel
theorem dX4_isPlayer_9 : decode cX4_isPlayer 9 = .ok (.getfield 179, 3) := by decide +kernel
theorem dX4_isPlayer_12 : decode cX4_isPlayer 12 = .ok (.if_icmp .ge 7, 3) := by decide +kernel
theorem dX4_isPlayer_15 : decode cX4_isPlayer 15 = .ok (.iconst 1, 1) := by decide +kernel
theorem dX4_isPlayer_16 : decode cX4_isPlayer 16 = .ok (.goto 4, 3) := by decide +kernel
theorem dX4_isPlayer_19 : decode cX4_isPlayer 19 = .ok (.iconst 0, 1) := by decide +kernel
theorem dX4_isPlayer_20 : decode cX4_isPlayer 20 = .ok (.ireturn, 1) := by decide +kernel
theorem dX4_isChord_0 : decode cX4_isChord 0 = .ok (.iload_n 1, 1) := by decide +kernel
theorem dX4_isChord_1 : decode cX4_isChord 1 = .ok (.ifCond .lt 18, 3) := by decide +kernel
theorem dX4_isChord_4 : decode cX4_isChord 4 = .ok (.iload_n 1, 1) := by decide +kernel
theorem dX4_isChord_5 : decode cX4_isChord 5 = .ok (.aload_n 0, 1) := by decide +kernel
theorem dX4_isChord_6 : decode cX4_isChord 6 = .ok (.getfield 32, 3) := by decide +kernel
theorem dX4_isChord_9 : decode cX4_isChord 9 = .ok (.getfield 122, 3) := by decide +kernel
theorem dX4_isChord_12 : decode cX4_isChord 12 = .ok (.if_icmp .ge 7, 3) := by decide +kernel
theorem dX4_isChord_15 : decode cX4_isChord 15 = .ok (.iconst 1, 1) := by decide +kernel
theorem dX4_isChord_16 : decode cX4_isChord 16 = .ok (.goto 4, 3) := by decide +kernel
theorem dX4_isChord_19 : decode cX4_isChord 19 = .ok (.iconst 0, 1) := by decide +kernel
theorem dX4_isChord_20 : decode cX4_isChord 20 = .ok (.ireturn, 1) := by decide +kernel
theorem dX4_areNotes_0 : decode cX4_areNotes 0 = .ok (.iload_n 0, 1) := by decide +kernel
theorem dX4_areNotes_1 : decode cX4_areNotes 1 = .ok (.iconst 0, 1) := by decide +kernel
theorem dX4_areNotes_2 : decode cX4_areNotes 2 = .ok (.bipush 60, 2) := by decide +kernel
theorem dX4_areNotes_4 : decode cX4_areNotes 4 = .ok (.invokestatic 143, 3) := by decide +kernel
theorem dX4_areNotes_7 : decode cX4_areNotes 7 = .ok (.ifCond .ne 5, 3) := by decide +kernel
theorem dX4_areNotes_10 : decode cX4_areNotes 10 = .ok (.iconst 0, 1) := by decide +kernel
theorem dX4_areNotes_11 : decode cX4_areNotes 11 = .ok (.ireturn, 1) := by decide +kernel
theorem dX4_areNotes_12 : decode cX4_areNotes 12 = .ok (.iload_n 1, 1) := by decide +kernel
theorem dX4_areNotes_13 : decode cX4_areNotes 13 = .ok (.iconst (-1), 1) := by decide +kernel
theorem dX4_areNotes_14 : decode cX4_areNotes 14 = .ok (.if_icmp .ne 14, 3) := by decide +kernel
theorem dX4_areNotes_17 : decode cX4_areNotes 17 = .ok (.iload_n 2, 1) := by decide +kernel
theorem dX4_areNotes_18 : decode cX4_areNotes 18 = .ok (.iconst (-1), 1) := by decide +kernel
theorem dX4_areNotes_19 : decode cX4_areNotes 19 = .ok (.if_icmp .ne 7, 3) := by decide +kernel
theorem dX4_areNotes_22 : decode cX4_areNotes 22 = .ok (.iconst 1, 1) := by decide +kernel
theorem dX4_areNotes_23 : decode cX4_areNotes 23 = .ok (.goto 4, 3) := by decide +kernel
theorem dX4_areNotes_26 : decode cX4_areNotes 26 = .ok (.iconst 0, 1) := by decide +kernel
theorem dX4_areNotes_27 : decode cX4_areNotes 27 = .ok (.ireturn, 1) := by decide +kernel
theorem dX4_areNotes_28 : decode cX4_areNotes 28 = .ok (.iload_n 1, 1) := by decide +kernel
theorem dX4_areNotes_29 : decode cX4_areNotes 29 = .ok (.iload_n 0, 1) := by decide +kernel
theorem dX4_areNotes_30 : decode cX4_areNotes 30 = .ok (.iconst 1, 1) := by decide +kernel
theorem dX4_areNotes_31 : decode cX4_areNotes 31 = .ok (.iadd, 1) := by decide +kernel
theorem dX4_areNotes_32 : decode cX4_areNotes 32 = .ok (.bipush 60, 2) := by decide +kernel
theorem dX4_areNotes_34 : decode cX4_areNotes 34 = .ok (.invokestatic 143, 3) := by decide +kernel
theorem dX4_areNotes_37 : decode cX4_areNotes 37 = .ok (.ifCond .eq 24, 3) := by decide +kernel
theorem dX4_areNotes_40 : decode cX4_areNotes 40 = .ok (.iload_n 2, 1) := by decide +kernel
theorem dX4_areNotes_41 : decode cX4_areNotes 41 = .ok (.iconst (-1), 1) := by decide +kernel
theorem dX4_areNotes_42 : decode cX4_areNotes 42 = .ok (.if_icmp .eq 15, 3) := by decide +kernel
theorem dX4_areNotes_45 : decode cX4_areNotes 45 = .ok (.iload_n 2, 1) := by decide +kernel
theorem dX4_areNotes_46 : decode cX4_areNotes 46 = .ok (.iload_n 1, 1) := by decide +kernel
theorem dX4_areNotes_47 : decode cX4_areNotes 47 = .ok (.iconst 1, 1) := by decide +kernel
theorem dX4_areNotes_48 : decode cX4_areNotes 48 = .ok (.iadd, 1) := by decide +kernel
theorem dX4_areNotes_49 : decode cX4_areNotes 49 = .ok (.bipush 60, 2) := by decide +kernel
theorem dX4_areNotes_51 : decode cX4_areNotes 51 = .ok (.invokestatic 143, 3) := by decide +kernel
theorem dX4_areNotes_54 : decode cX4_areNotes 54 = .ok (.ifCond .eq 7, 3) := by decide +kernel
theorem dX4_areNotes_57 : decode cX4_areNotes 57 = .ok (.iconst 1, 1) := by decide +kernel
theorem dX4_areNotes_58 : decode cX4_areNotes 58 = .ok (.goto 4, 3) := by decide +kernel
theorem dX4_areNotes_61 : decode cX4_areNotes 61 = .ok (.iconst 0, 1) := by decide +kernel
theorem dX4_areNotes_62 : decode cX4_areNotes 62 = .ok (.ireturn, 1) := by decide +kernel
theorem dX4_remember_0 : decode cX4_remember 0 = .ok (.aload_n 0, 1) := by decide +kernel
theorem dX4_remember_1 : decode cX4_remember 1 = .ok (.getfield 41, 3) := by decide +kernel
theorem dX4_remember_4 : decode cX4_remember 4 = .ok (.bipush 10, 2) := by decide +kernel
theorem dX4_remember_6 : decode cX4_remember 6 = .ok (.if_icmp .lt 7, 3) := by decide +kernel
theorem dX4_remember_9 : decode cX4_remember 9 = .ok (.aload_n 0, 1) := by decide +kernel
theorem dX4_remember_10 : decode cX4_remember 10 = .ok (.invokevirtual 205, 3) := by decide +kernel
theorem dX4_remember_13 : decode cX4_remember 13 = .ok (.aload_n 0, 1) := by decide +kernel
theorem dX4_remember_14 : decode cX4_remember 14 = .ok (.getfield 37, 3) := by decide +kernel
theorem dX4_remember_17 : decode cX4_remember 17 = .ok (.aload_n 0, 1) := by decide +kernel
theorem dX4_remember_18 : decode cX4_remember 18 = .ok (.getfield 41, 3) := by decide +kernel
theorem dX4_remember_21 : decode cX4_remember 21 = .ok (.aaload, 1) := by decide +kernel
theorem dX4_remember_22 : decode cX4_remember 22 = .ok (.aload_n 0, 1) := by decide +kernel
theorem dX4_remember_23 : decode cX4_remember 23 = .ok (.getfield 32, 3) := by decide +kernel
theorem dX4_remember_26 : decode cX4_remember 26 = .ok (.invokevirtual 86, 3) := by decide +kernel
theorem dX4_remember_29 : decode cX4_remember 29 = .ok (.aload_n 0, 1) := by decide +kernel
theorem dX4_remember_30 : decode cX4_remember 30 = .ok (.dup, 1) := by decide +kernel
theorem dX4_remember_31 : decode cX4_remember 31 = .ok (.getfield 41, 3) := by decide +kernel
theorem dX4_remember_34 : decode cX4_remember 34 = .ok (.iconst 1, 1) := by decide +kernel
theorem dX4_remember_35 : decode cX4_remember 35 = .ok (.iadd, 1) := by decide +kernel
theorem dX4_remember_36 : decode cX4_remember 36 = .ok (.putfield 41, 3) := by decide +kernel
theorem dX4_remember_39 : decode cX4_remember 39 = .ok (.aload_n 0, 1) := by decide +kernel
theorem dX4_remember_40 : decode cX4_remember 40 = .ok (.iconst 0, 1) := by decide +kernel
theorem dX4_remember_41 : decode cX4_remember 41 = .ok (.putfield 62, 3) := by decide +kernel
theorem dX4_remember_44 : decode cX4_remember 44 = .ok (.return_, 1) := by decide +kernel
theorem dX4_forgetOldest_0 : decode cX4_forgetOldest 0 = .ok (.aload_n 0, 1) := by decide +kernel
theorem dX4_forgetOldest_1 : decode cX4_forgetOldest 1 = .ok (.getfield 37, 3) := by decide +kernel
theorem dX4_forgetOldest_4 : decode cX4_forgetOldest 4 = .ok (.iconst 0, 1) := by decide +kernel
theorem dX4_forgetOldest_5 : decode cX4_forgetOldest 5 = .ok (.aaload, 1) := by decide +kernel
theorem dX4_forgetOldest_6 : decode cX4_forgetOldest 6 = .ok (.astore_n 1, 1) := by decide +kernel
theorem dX4_forgetOldest_7 : decode cX4_forgetOldest 7 = .ok (.iconst 1, 1) := by decide +kernel
theorem dX4_forgetOldest_8 : decode cX4_forgetOldest 8 = .ok (.istore_n 2, 1) := by decide +kernel
theorem dX4_forgetOldest_9 : decode cX4_forgetOldest 9 = .ok (.iload_n 2, 1) := by decide +kernel
theorem dX4_forgetOldest_10 : decode cX4_forgetOldest 10 = .ok (.bipush 10, 2) := by decide +kernel
theorem dX4_forgetOldest_12 : decode cX4_forgetOldest 12 = .ok (.if_icmp .ge 23, 3) := by decide +kernel
theorem dX4_forgetOldest_15 : decode cX4_forgetOldest 15 = .ok (.aload_n 0, 1) := by decide +kernel
theorem dX4_forgetOldest_16 : decode cX4_forgetOldest 16 = .ok (.getfield 37, 3) := by decide +kernel
theorem dX4_forgetOldest_19 : decode cX4_forgetOldest 19 = .ok (.iload_n 2, 1) := by decide +kernel
theorem dX4_forgetOldest_20 : decode cX4_forgetOldest 20 = .ok (.iconst 1, 1) := by decide +kernel
theorem dX4_forgetOldest_21 : decode cX4_forgetOldest 21 = .ok (.isub, 1) := by decide +kernel
theorem dX4_forgetOldest_22 : decode cX4_forgetOldest 22 = .ok (.aload_n 0, 1) := by decide +kernel
theorem dX4_forgetOldest_23 : decode cX4_forgetOldest 23 = .ok (.getfield 37, 3) := by decide +kernel
theorem dX4_forgetOldest_26 : decode cX4_forgetOldest 26 = .ok (.iload_n 2, 1) := by decide +kernel
theorem dX4_forgetOldest_27 : decode cX4_forgetOldest 27 = .ok (.aaload, 1) := by decide +kernel
theorem dX4_forgetOldest_28 : decode cX4_forgetOldest 28 = .ok (.aastore, 1) := by decide +kernel
theorem dX4_forgetOldest_29 : decode cX4_forgetOldest 29 = .ok (.iinc 2 1, 3) := by decide +kernel
theorem dX4_forgetOldest_32 : decode cX4_forgetOldest 32 = .ok (.goto (-23), 3) := by decide +kernel
theorem dX4_forgetOldest_35 : decode cX4_forgetOldest 35 = .ok (.aload_n 0, 1) := by decide +kernel
theorem dX4_forgetOldest_36 : decode cX4_forgetOldest 36 = .ok (.getfield 37, 3) := by decide +kernel
theorem dX4_forgetOldest_39 : decode cX4_forgetOldest 39 = .ok (.bipush 9, 2) := by decide +kernel
theorem dX4_forgetOldest_41 : decode cX4_forgetOldest 41 = .ok (.aload_n 1, 1) := by decide +kernel
theorem dX4_forgetOldest_42 : decode cX4_forgetOldest 42 = .ok (.aastore, 1) := by decide +kernel
theorem dX4_forgetOldest_43 : decode cX4_forgetOldest 43 = .ok (.aload_n 0, 1) := by decide +kernel
theorem dX4_forgetOldest_44 : decode cX4_forgetOldest 44 = .ok (.bipush 9, 2) := by decide +kernel
theorem dX4_forgetOldest_46 : decode cX4_forgetOldest 46 = .ok (.putfield 41, 3) := by decide +kernel
theorem dX4_forgetOldest_49 : decode cX4_forgetOldest 49 = .ok (.return_, 1) := by decide +kernel
theorem dX4_isThereAScore_0 : decode cX4_isThereAScore 0 = .ok (.aload_n 0, 1) := by decide +kernel
theorem dX4_isThereAScore_1 : decode cX4_isThereAScore 1 = .ok (.getfield 62, 3) := by decide +kernel
theorem dX4_isThereAScore_4 : decode cX4_isThereAScore 4 = .ok (.ifCond .ne 22, 3) := by decide +kernel
theorem dX4_isThereAScore_7 : decode cX4_isThereAScore 7 = .ok (.aload_n 0, 1) := by decide +kernel
theorem dX4_isThereAScore_8 : decode cX4_isThereAScore 8 = .ok (.getfield 19, 3) := by decide +kernel
theorem dX4_isThereAScore_11 : decode cX4_isThereAScore 11 = .ok (.invokevirtual 208, 3) := by decide +kernel
theorem dX4_isThereAScore_14 : decode cX4_isThereAScore 14 = .ok (.aload_n 0, 1) := by decide +kernel
theorem dX4_isThereAScore_15 : decode cX4_isThereAScore 15 = .ok (.getfield 19, 3) := by decide +kernel
theorem dX4_isThereAScore_18 : decode cX4_isThereAScore 18 = .ok (.invokevirtual 211, 3) := by decide +kernel
theorem dX4_isThereAScore_21 : decode cX4_isThereAScore 21 = .ok (.aload_n 0, 1) := by decide +kernel
theorem dX4_isThereAScore_22 : decode cX4_isThereAScore 22 = .ok (.iconst 1, 1) := by decide +kernel
theorem dX4_isThereAScore_23 : decode cX4_isThereAScore 23 = .ok (.putfield 62, 3) := by decide +kernel
theorem dX4_isThereAScore_26 : decode cX4_isThereAScore 26 = .ok (.aload_n 0, 1) := by decide +kernel
theorem dX4_isThereAScore_27 : decode cX4_isThereAScore 27 = .ok (.getfield 19, 3) := by decide +kernel
theorem dX4_isThereAScore_30 : decode cX4_isThereAScore 30 = .ok (.getfield 163, 3) := by decide +kernel
theorem dX4_isThereAScore_33 : decode cX4_isThereAScore 33 = .ok (.ldc 214, 2) := by decide +kernel
theorem dX4_isThereAScore_35 : decode cX4_isThereAScore 35 = .ok (.if_icmp .ge 7, 3) := by decide +kernel
theorem dX4_isThereAScore_38 : decode cX4_isThereAScore 38 = .ok (.iconst 1, 1) := by decide +kernel
theorem dX4_isThereAScore_39 : decode cX4_isThereAScore 39 = .ok (.goto 4, 3) := by decide +kernel
theorem dX4_isThereAScore_42 : decode cX4_isThereAScore 42 = .ok (.iconst 0, 1) := by decide +kernel
theorem dX4_isThereAScore_43 : decode cX4_isThereAScore 43 = .ok (.ireturn, 1) := by decide +kernel
theorem dX4_canPlayAll_0 : decode cX4_canPlayAll 0 = .ok (.aload_n 0, 1) := by decide +kernel
theorem dX4_canPlayAll_1 : decode cX4_canPlayAll 1 = .ok (.getfield 19, 3) := by decide +kernel
theorem dX4_canPlayAll_4 : decode cX4_canPlayAll 4 = .ok (.iload_n 1, 1) := by decide +kernel
theorem dX4_canPlayAll_5 : decode cX4_canPlayAll 5 = .ok (.invokevirtual 188, 3) := by decide +kernel
theorem dX4_canPlayAll_8 : decode cX4_canPlayAll 8 = .ok (.aload_n 0, 1) := by decide +kernel
theorem dX4_canPlayAll_9 : decode cX4_canPlayAll 9 = .ok (.getfield 19, 3) := by decide +kernel
theorem dX4_canPlayAll_12 : decode cX4_canPlayAll 12 = .ok (.aload_n 0, 1) := by decide +kernel
theorem dX4_canPlayAll_13 : decode cX4_canPlayAll 13 = .ok (.getfield 32, 3) := by decide +kernel
theorem dX4_canPlayAll_16 : decode cX4_canPlayAll 16 = .ok (.getfield 122, 3) := by decide +kernel
theorem dX4_canPlayAll_19 : decode cX4_canPlayAll 19 = .ok (.invokevirtual 191, 3) := by decide +kernel
theorem dX4_canPlayAll_22 : decode cX4_canPlayAll 22 = .ok (.aload_n 0, 1) := by decide +kernel
theorem dX4_canPlayAll_23 : decode cX4_canPlayAll 23 = .ok (.getfield 32, 3) := by decide +kernel
theorem dX4_canPlayAll_26 : decode cX4_canPlayAll 26 = .ok (.getfield 149, 3) := by decide +kernel
theorem dX4_canPlayAll_29 : decode cX4_canPlayAll 29 = .ok (.if_icmp .gt 7, 3) := by decide +kernel
theorem dX4_canPlayAll_32 : decode cX4_canPlayAll 32 = .ok (.iconst 1, 1) := by decide +kernel
theorem dX4_canPlayAll_33 : decode cX4_canPlayAll 33 = .ok (.goto 4, 3) := by decide +kernel
theorem dX4_canPlayAll_36 : decode cX4_canPlayAll 36 = .ok (.iconst 0, 1) := by decide +kernel
theorem dX4_canPlayAll_37 : decode cX4_canPlayAll 37 = .ok (.ireturn, 1) := by decide +kernel
theorem dX4_fitsAllHeard_0 : decode cX4_fitsAllHeard 0 = .ok (.iconst 0, 1) := by decide +kernel
theorem dX4_fitsAllHeard_1 : decode cX4_fitsAllHeard 1 = .ok (.istore_n 2, 1) := by decide +kernel
theorem dX4_fitsAllHeard_2 : decode cX4_fitsAllHeard 2 = .ok (.iload_n 2, 1) := by decide +kernel
theorem dX4_fitsAllHeard_3 : decode cX4_fitsAllHeard 3 = .ok (.aload_n 0, 1) := by decide +kernel
theorem dX4_fitsAllHeard_4 : decode cX4_fitsAllHeard 4 = .ok (.getfield 59, 3) := by decide +kernel
theorem dX4_fitsAllHeard_7 : decode cX4_fitsAllHeard 7 = .ok (.if_icmp .ge 61, 3) := by decide +kernel
theorem dX4_fitsAllHeard_10 : decode cX4_fitsAllHeard 10 = .ok (.aload_n 0, 1) := by decide +kernel
theorem dX4_fitsAllHeard_11 : decode cX4_fitsAllHeard 11 = .ok (.getfield 52, 3) := by decide +kernel
theorem dX4_fitsAllHeard_14 : decode cX4_fitsAllHeard 14 = .ok (.iload_n 2, 1) := by decide +kernel
theorem dX4_fitsAllHeard_15 : decode cX4_fitsAllHeard 15 = .ok (.iaload, 1) := by decide +kernel
theorem dX4_fitsAllHeard_16 : decode cX4_fitsAllHeard 16 = .ok (.istore_n 3, 1) := by decide +kernel
theorem dX4_fitsAllHeard_17 : decode cX4_fitsAllHeard 17 = .ok (.aload_n 0, 1) := by decide +kernel
theorem dX4_fitsAllHeard_18 : decode cX4_fitsAllHeard 18 = .ok (.iload_n 3, 1) := by decide +kernel
theorem dX4_fitsAllHeard_19 : decode cX4_fitsAllHeard 19 = .ok (.invokevirtual 111, 3) := by decide +kernel
theorem dX4_fitsAllHeard_22 : decode cX4_fitsAllHeard 22 = .ok (.ifCond .eq 40, 3) := by decide +kernel
theorem dX4_fitsAllHeard_25 : decode cX4_fitsAllHeard 25 = .ok (.aload_n 0, 1) := by decide +kernel
theorem dX4_fitsAllHeard_26 : decode cX4_fitsAllHeard 26 = .ok (.getfield 19, 3) := by decide +kernel
theorem dX4_fitsAllHeard_29 : decode cX4_fitsAllHeard 29 = .ok (.iload_n 3, 1) := by decide +kernel
theorem dX4_fitsAllHeard_30 : decode cX4_fitsAllHeard 30 = .ok (.iload_n 1, 1) := by decide +kernel
theorem dX4_fitsAllHeard_31 : decode cX4_fitsAllHeard 31 = .ok (.invokevirtual 156, 3) := by decide +kernel
theorem dX4_fitsAllHeard_34 : decode cX4_fitsAllHeard 34 = .ok (.ifCond .le 7, 3) := by decide +kernel
theorem dX4_fitsAllHeard_37 : decode cX4_fitsAllHeard 37 = .ok (.iconst 1, 1) := by decide +kernel
theorem dX4_fitsAllHeard_38 : decode cX4_fitsAllHeard 38 = .ok (.goto 4, 3) := by decide +kernel
theorem dX4_fitsAllHeard_41 : decode cX4_fitsAllHeard 41 = .ok (.iconst 0, 1) := by decide +kernel
theorem dX4_fitsAllHeard_42 : decode cX4_fitsAllHeard 42 = .ok (.aload_n 0, 1) := by decide +kernel
theorem dX4_fitsAllHeard_43 : decode cX4_fitsAllHeard 43 = .ok (.getfield 56, 3) := by decide +kernel
theorem dX4_fitsAllHeard_46 : decode cX4_fitsAllHeard 46 = .ok (.iload_n 2, 1) := by decide +kernel
theorem dX4_fitsAllHeard_47 : decode cX4_fitsAllHeard 47 = .ok (.iaload, 1) := by decide +kernel
theorem dX4_fitsAllHeard_48 : decode cX4_fitsAllHeard 48 = .ok (.iconst 1, 1) := by decide +kernel
theorem dX4_fitsAllHeard_49 : decode cX4_fitsAllHeard 49 = .ok (.if_icmp .ne 7, 3) := by decide +kernel
theorem dX4_fitsAllHeard_52 : decode cX4_fitsAllHeard 52 = .ok (.iconst 1, 1) := by decide +kernel
theorem dX4_fitsAllHeard_53 : decode cX4_fitsAllHeard 53 = .ok (.goto 4, 3) := by decide +kernel
theorem dX4_fitsAllHeard_56 : decode cX4_fitsAllHeard 56 = .ok (.iconst 0, 1) := by decide +kernel
theorem dX4_fitsAllHeard_57 : decode cX4_fitsAllHeard 57 = .ok (.if_icmp .eq 5, 3) := by decide +kernel
theorem dX4_fitsAllHeard_60 : decode cX4_fitsAllHeard 60 = .ok (.iconst 0, 1) := by decide +kernel
theorem dX4_fitsAllHeard_61 : decode cX4_fitsAllHeard 61 = .ok (.ireturn, 1) := by decide +kernel
theorem dX4_fitsAllHeard_62 : decode cX4_fitsAllHeard 62 = .ok (.iinc 2 1, 3) := by decide +kernel
theorem dX4_fitsAllHeard_65 : decode cX4_fitsAllHeard 65 = .ok (.goto (-63), 3) := by decide +kernel
theorem dX4_fitsAllHeard_68 : decode cX4_fitsAllHeard 68 = .ok (.iconst 1, 1) := by decide +kernel
theorem dX4_fitsAllHeard_69 : decode cX4_fitsAllHeard 69 = .ok (.ireturn, 1) := by decide +kernel
theorem dX5_in_0 : decode cX5_in 0 = .ok (.iload_n 0, 1) := by decide +kernel
theorem dX5_in_1 : decode cX5_in 1 = .ok (.iload_n 1, 1) := by decide +kernel
theorem dX5_in_2 : decode cX5_in 2 = .ok (.if_icmp .lt 12, 3) := by decide +kernel
theorem dX5_in_5 : decode cX5_in 5 = .ok (.iload_n 0, 1) := by decide +kernel
theorem dX5_in_6 : decode cX5_in 6 = .ok (.iload_n 2, 1) := by decide +kernel
theorem dX5_in_7 : decode cX5_in 7 = .ok (.if_icmp .gt 7, 3) := by decide +kernel
theorem dX5_in_10 : decode cX5_in 10 = .ok (.iconst 1, 1) := by decide +kernel
theorem dX5_in_11 : decode cX5_in 11 = .ok (.goto 4, 3) := by decide +kernel
theorem dX5_in_14 : decode cX5_in 14 = .ok (.iconst 0, 1) := by decide +kernel
theorem dX5_in_15 : decode cX5_in 15 = .ok (.ireturn, 1) := by decide +kernel
theorem dX5_init_0 : decode cX5_init 0 = .ok (.aload_n 0, 1) := by decide +kernel
theorem dX5_init_1 : decode cX5_init 1 = .ok (.invokespecial 1, 3) := by decide +kernel
theorem dX5_init_4 : decode cX5_init 4 = .ok (.aload_n 0, 1) := by decide +kernel
theorem dX5_init_5 : decode cX5_init 5 = .ok (.bipush 20, 2) := by decide +kernel
theorem dX5_init_7 : decode cX5_init 7 = .ok (.newarray .int, 2) := by decide +kernel
theorem dX5_init_9 : decode cX5_init 9 = .ok (.putfield 7, 3) := by decide +kernel
theorem dX5_init_12 : decode cX5_init 12 = .ok (.aload_n 0, 1) := by decide +kernel
theorem dX5_init_13 : decode cX5_init 13 = .ok (.bipush 36, 2) := by decide +kernel
theorem dX5_init_15 : decode cX5_init 15 = .ok (.newarray .int, 2) := by decide +kernel
theorem dX5_init_17 : decode cX5_init 17 = .ok (.putfield 13, 3) := by decide +kernel
theorem dX5_init_20 : decode cX5_init 20 = .ok (.aload_n 0, 1) := by decide +kernel
theorem dX5_init_21 : decode cX5_init 21 = .ok (.sipush 360, 3) := by decide +kernel
theorem dX5_init_24 : decode cX5_init 24 = .ok (.newarray .int, 2) := by decide +kernel
theorem dX5_init_26 : decode cX5_init 26 = .ok (.putfield 16, 3) := by decide +kernel
theorem dX5_init_29 : decode cX5_init 29 = .ok (.aload_n 0, 1) := by decide +kernel
theorem dX5_init_30 : decode cX5_init 30 = .ok (.iconst 2, 1) := by decide +kernel
theorem dX5_init_31 : decode cX5_init 31 = .ok (.newarray .boolean, 2) := by decide +kernel
theorem dX5_init_33 : decode cX5_init 33 = .ok (.putfield 19, 3) := by decide +kernel
theorem dX5_init_36 : decode cX5_init 36 = .ok (.aload_n 0, 1) := by decide +kernel
theorem dX5_init_37 : decode cX5_init 37 = .ok (.bipush 72, 2) := by decide +kernel
theorem dX5_init_39 : decode cX5_init 39 = .ok (.newarray .int, 2) := by decide +kernel
theorem dX5_init_41 : decode cX5_init 41 = .ok (.putfield 23, 3) := by decide +kernel
theorem dX5_init_44 : decode cX5_init 44 = .ok (.aload_n 0, 1) := by decide +kernel
theorem dX5_init_45 : decode cX5_init 45 = .ok (.bipush 6, 2) := by decide +kernel
theorem dX5_init_47 : decode cX5_init 47 = .ok (.newarray .int, 2) := by decide +kernel
theorem dX5_init_49 : decode cX5_init 49 = .ok (.putfield 26, 3) := by decide +kernel
theorem dX5_init_52 : decode cX5_init 52 = .ok (.aload_n 0, 1) := by decide +kernel
theorem dX5_init_53 : decode cX5_init 53 = .ok (.bipush 6, 2) := by decide +kernel
theorem dX5_init_55 : decode cX5_init 55 = .ok (.newarray .int, 2) := by decide +kernel
theorem dX5_init_57 : decode cX5_init 57 = .ok (.putfield 29, 3) := by decide +kernel
theorem dX5_init_60 : decode cX5_init 60 = .ok (.aload_n 0, 1) := by decide +kernel
theorem dX5_init_61 : decode cX5_init 61 = .ok (.bipush 20, 2) := by decide +kernel
theorem dX5_init_63 : decode cX5_init 63 = .ok (.newarray .int, 2) := by decide +kernel
theorem dX5_init_65 : decode cX5_init 65 = .ok (.putfield 32, 3) := by decide +kernel
theorem dX5_init_68 : decode cX5_init 68 = .ok (.aload_n 0, 1) := by decide +kernel
theorem dX5_init_69 : decode cX5_init 69 = .ok (.bipush 36, 2) := by decide +kernel
theorem dX5_init_71 : decode cX5_init 71 = .ok (.newarray .int, 2) := by decide +kernel
theorem dX5_init_73 : decode cX5_init 73 = .ok (.putfield 35, 3) := by decide +kernel
theorem dX5_init_76 : decode cX5_init 76 = .ok (.aload_n 0, 1) := by decide +kernel
theorem dX5_init_77 : decode cX5_init 77 = .ok (.sipush 150, 3) := by decide +kernel
theorem dX5_init_80 : decode cX5_init 80 = .ok (.newarray .int, 2) := by decide +kernel
theorem dX5_init_82 : decode cX5_init 82 = .ok (.putfield 38, 3) := by decide +kernel
theorem dX5_init_85 : decode cX5_init 85 = .ok (.aload_n 0, 1) := by decide +kernel
theorem dX5_init_86 : decode cX5_init 86 = .ok (.sipush 6272, 3) := by decide +kernel
theorem dX5_init_89 : decode cX5_init 89 = .ok (.newarray .int, 2) := by decide +kernel
theorem dX5_init_91 : decode cX5_init 91 = .ok (.putfield 41, 3) := by decide +kernel
theorem dX5_init_94 : decode cX5_init 94 = .ok (.aload_n 0, 1) := by decide +kernel
theorem dX5_init_95 : decode cX5_init 95 = .ok (.bipush 8, 2) := by decide +kernel
theorem dX5_init_97 : decode cX5_init 97 = .ok (.newarray .int, 2) := by decide +kernel
theorem dX5_init_99 : decode cX5_init 99 = .ok (.putfield 44, 3) := by decide +kernel
theorem dX5_init_102 : decode cX5_init 102 = .ok (.aload_n 0, 1) := by decide +kernel
theorem dX5_init_103 : decode cX5_init 103 = .ok (.sipush 6272, 3) := by decide +kernel
theorem dX5_init_106 : decode cX5_init 106 = .ok (.newarray .int, 2) := by decide +kernel
theorem dX5_init_108 : decode cX5_init 108 = .ok (.putfield 47, 3) := by decide +kernel
theorem dX5_init_111 : decode cX5_init 111 = .ok (.aload_n 0, 1) := by decide +kernel
theorem dX5_init_112 : decode cX5_init 112 = .ok (.bipush 8, 2) := by decide +kernel
theorem dX5_init_114 : decode cX5_init 114 = .ok (.newarray .int, 2) := by decide +kernel
theorem dX5_init_116 : decode cX5_init 116 = .ok (.putfield 50, 3) := by decide +kernel
theorem dX5_init_119 : decode cX5_init 119 = .ok (.aload_n 0, 1) := by decide +kernel
theorem dX5_init_120 : decode cX5_init 120 = .ok (.invokevirtual 53, 3) := by decide +kernel
theorem dX5_init_123 : decode cX5_init 123 = .ok (.aload_n 0, 1) := by decide +kernel
theorem dX5_init_124 : decode cX5_init 124 = .ok (.invokevirtual 56, 3) := by decide +kernel
theorem dX5_init_127 : decode cX5_init 127 = .ok (.return_, 1) := by decide +kernel
theorem dX5_begins_0 : decode cX5_begins 0 = .ok (.aload_n 0, 1) := by decide +kernel
theorem dX5_begins_1 : decode cX5_begins 1 = .ok (.iconst 0, 1) := by decide +kernel
theorem dX5_begins_2 : decode cX5_begins 2 = .ok (.putfield 59, 3) := by decide +kernel
theorem dX5_begins_5 : decode cX5_begins 5 = .ok (.iconst 0, 1) := by decide +kernel
theorem dX5_begins_6 : decode cX5_begins 6 = .ok (.istore_n 1, 1) := by decide +kernel
theorem dX5_begins_7 : decode cX5_begins 7 = .ok (.iload_n 1, 1) := by decide +kernel
theorem dX5_begins_8 : decode cX5_begins 8 = .ok (.bipush 36, 2) := by decide +kernel
theorem dX5_begins_10 : decode cX5_begins 10 = .ok (.if_icmp .ge 16, 3) := by decide +kernel
theorem dX5_begins_13 : decode cX5_begins 13 = .ok (.aload_n 0, 1) := by decide +kernel
theorem dX5_begins_14 : decode cX5_begins 14 = .ok (.getfield 35, 3) := by decide +kernel
theorem dX5_begins_17 : decode cX5_begins 17 = .ok (.iload_n 1, 1) := by decide +kernel
theorem dX5_begins_18 : decode cX5_begins 18 = .ok (.iconst 0, 1) := by decide +kernel
theorem dX5_begins_19 : decode cX5_begins 19 = .ok (.iastore, 1) := by decide +kernel
theorem dX5_begins_20 : decode cX5_begins 20 = .ok (.iinc 1 1, 3) := by decide +kernel
theorem dX5_begins_23 : decode cX5_begins 23 = .ok (.goto (-16), 3) := by decide +kernel
theorem dX5_begins_26 : decode cX5_begins 26 = .ok (.aload_n 0, 1) := by decide +kernel
theorem dX5_begins_27 : decode cX5_begins 27 = .ok (.getfield 35, 3) := by decide +kernel
theorem dX5_begins_30 : decode cX5_begins 30 = .ok (.bipush 34, 2) := by decide +kernel
theorem dX5_begins_32 : decode cX5_begins 32 = .ok (.iconst 5, 1) := by decide +kernel
theorem dX5_begins_33 : decode cX5_begins 33 = .ok (.iastore, 1) := by decide +kernel
theorem dX5_begins_34 : decode cX5_begins 34 = .ok (.aload_n 0, 1) := by decide +kernel
theorem dX5_begins_35 : decode cX5_begins 35 = .ok (.getfield 35, 3) := by decide +kernel
theorem dX5_begins_38 : decode cX5_begins 38 = .ok (.bipush 35, 2) := by decide +kernel
theorem dX5_begins_40 : decode cX5_begins 40 = .ok (.bipush 9, 2) := by decide +kernel
theorem dX5_begins_42 : decode cX5_begins 42 = .ok (.iastore, 1) := by decide +kernel
theorem dX5_begins_43 : decode cX5_begins 43 = .ok (.return_, 1) := by decide +kernel
theorem dX5_becomes_0 : decode cX5_becomes 0 = .ok (.aload_n 0, 1) := by decide +kernel
theorem dX5_becomes_1 : decode cX5_becomes 1 = .ok (.aload_n 0, 1) := by decide +kernel
theorem dX5_becomes_2 : decode cX5_becomes 2 = .ok (.getfield 59, 3) := by decide +kernel
theorem dX5_becomes_5 : decode cX5_becomes 5 = .ok (.putfield 63, 3) := by decide +kernel
theorem dX5_becomes_8 : decode cX5_becomes 8 = .ok (.iconst 0, 1) := by decide +kernel
theorem dX5_becomes_9 : decode cX5_becomes 9 = .ok (.istore_n 1, 1) := by decide +kernel
theorem dX5_becomes_10 : decode cX5_becomes 10 = .ok (.iload_n 1, 1) := by decide +kernel
theorem dX5_becomes_11 : decode cX5_becomes 11 = .ok (.bipush 20, 2) := by decide +kernel
theorem dX5_becomes_13 : decode cX5_becomes 13 = .ok (.if_icmp .ge 21, 3) := by decide +kernel
theorem dX5_becomes_16 : decode cX5_becomes 16 = .ok (.aload_n 0, 1) := by decide +kernel
theorem dX5_becomes_17 : decode cX5_becomes 17 = .ok (.getfield 7, 3) := by decide +kernel
theorem dX5_becomes_20 : decode cX5_becomes 20 = .ok (.iload_n 1, 1) := by decide +kernel
theorem dX5_becomes_21 : decode cX5_becomes 21 = .ok (.aload_n 0, 1) := by decide +kernel
theorem dX5_becomes_22 : decode cX5_becomes 22 = .ok (.getfield 32, 3) := by decide +kernel
theorem dX5_becomes_25 : decode cX5_becomes 25 = .ok (.iload_n 1, 1) := by decide +kernel
theorem dX5_becomes_26 : decode cX5_becomes 26 = .ok (.iaload, 1) := by decide +kernel
theorem dX5_becomes_27 : decode cX5_becomes 27 = .ok (.iastore, 1) := by decide +kernel
theorem dX5_becomes_28 : decode cX5_becomes 28 = .ok (.iinc 1 1, 3) := by decide +kernel
theorem dX5_becomes_31 : decode cX5_becomes 31 = .ok (.goto (-21), 3) := by decide +kernel
theorem dX5_becomes_34 : decode cX5_becomes 34 = .ok (.iconst 0, 1) := by decide +kernel
theorem dX5_becomes_35 : decode cX5_becomes 35 = .ok (.istore_n 1, 1) := by decide +kernel
theorem dX5_becomes_36 : decode cX5_becomes 36 = .ok (.iload_n 1, 1) := by decide +kernel
theorem dX5_becomes_37 : decode cX5_becomes 37 = .ok (.bipush 36, 2) := by decide +kernel
theorem dX5_becomes_39 : decode cX5_becomes 39 = .ok (.if_icmp .ge 21, 3) := by decide +kernel
theorem dX5_becomes_42 : decode cX5_becomes 42 = .ok (.aload_n 0, 1) := by decide +kernel
theorem dX5_becomes_43 : decode cX5_becomes 43 = .ok (.getfield 13, 3) := by decide +kernel
theorem dX5_becomes_46 : decode cX5_becomes 46 = .ok (.iload_n 1, 1) := by decide +kernel
theorem dX5_becomes_47 : decode cX5_becomes 47 = .ok (.aload_n 0, 1) := by decide +kernel
theorem dX5_becomes_48 : decode cX5_becomes 48 = .ok (.getfield 35, 3) := by decide +kernel
theorem dX5_becomes_51 : decode cX5_becomes 51 = .ok (.iload_n 1, 1) := by decide +kernel
theorem dX5_becomes_52 : decode cX5_becomes 52 = .ok (.iaload, 1) := by decide +kernel
theorem dX5_becomes_53 : decode cX5_becomes 53 = .ok (.iastore, 1) := by decide +kernel
theorem dX5_becomes_54 : decode cX5_becomes 54 = .ok (.iinc 1 1, 3) := by decide +kernel
theorem dX5_becomes_57 : decode cX5_becomes 57 = .ok (.goto (-21), 3) := by decide +kernel
theorem dX5_becomes_60 : decode cX5_becomes 60 = .ok (.aload_n 0, 1) := by decide +kernel
theorem dX5_becomes_61 : decode cX5_becomes 61 = .ok (.getfield 13, 3) := by decide +kernel
theorem dX5_becomes_64 : decode cX5_becomes 64 = .ok (.bipush 33, 2) := by decide +kernel
theorem dX5_becomes_66 : decode cX5_becomes 66 = .ok (.iconst 1, 1) := by decide +kernel
theorem dX5_becomes_67 : decode cX5_becomes 67 = .ok (.aload_n 0, 1) := by decide +kernel
theorem dX5_becomes_68 : decode cX5_becomes 68 = .ok (.getfield 63, 3) := by decide +kernel
theorem dX5_becomes_71 : decode cX5_becomes 71 = .ok (.ishl, 1) := by decide +kernel
theorem dX5_becomes_72 : decode cX5_becomes 72 = .ok (.iconst 1, 1) := by decide +kernel
theorem dX5_becomes_73 : decode cX5_becomes 73 = .ok (.isub, 1) := by decide +kernel
theorem dX5_becomes_74 : decode cX5_becomes 74 = .ok (.iastore, 1) := by decide +kernel
theorem dX5_becomes_75 : decode cX5_becomes 75 = .ok (.aload_n 0, 1) := by decide +kernel
theorem dX5_becomes_76 : decode cX5_becomes 76 = .ok (.iconst 0, 1) := by decide +kernel
theorem dX5_becomes_77 : decode cX5_becomes 77 = .ok (.putfield 66, 3) := by decide +kernel
theorem dX5_becomes_80 : decode cX5_becomes 80 = .ok (.aload_n 0, 1) := by decide +kernel
theorem dX5_becomes_81 : decode cX5_becomes 81 = .ok (.iconst 0, 1) := by decide +kernel
theorem dX5_becomes_82 : decode cX5_becomes 82 = .ok (.putfield 69, 3) := by decide +kernel
theorem dX5_becomes_85 : decode cX5_becomes 85 = .ok (.aload_n 0, 1) := by decide +kernel
theorem dX5_becomes_86 : decode cX5_becomes 86 = .ok (.getfield 19, 3) := by decide +kernel
theorem dX5_becomes_89 : decode cX5_becomes 89 = .ok (.iconst 0, 1) := by decide +kernel
theorem dX5_becomes_90 : decode cX5_becomes 90 = .ok (.iconst 0, 1) := by decide +kernel
theorem dX5_becomes_91 : decode cX5_becomes 91 = .ok (.bastore, 1) := by decide +kernel
theorem dX5_becomes_92 : decode cX5_becomes 92 = .ok (.aload_n 0, 1) := by decide +kernel
theorem dX5_becomes_93 : decode cX5_becomes 93 = .ok (.getfield 19, 3) := by decide +kernel
theorem dX5_becomes_96 : decode cX5_becomes 96 = .ok (.iconst 1, 1) := by decide +kernel
theorem dX5_becomes_97 : decode cX5_becomes 97 = .ok (.iconst 0, 1) := by decide +kernel
theorem dX5_becomes_98 : decode cX5_becomes 98 = .ok (.bastore, 1) := by decide +kernel
theorem dX5_becomes_99 : decode cX5_becomes 99 = .ok (.return_, 1) := by decide +kernel
theorem dX5_type_0 : decode cX5_type 0 = .ok (.iload_n 1, 1) := by decide +kernel
theorem dX5_type_1 : decode cX5_type 1 = .ok (.iconst 0, 1) := by decide +kernel
theorem dX5_type_2 : decode cX5_type 2 = .ok (.sipush 255, 3) := by decide +kernel
theorem dX5_type_5 : decode cX5_type 5 = .ok (.invokestatic 72, 3) := by decide +kernel
theorem dX5_type_8 : decode cX5_type 8 = .ok (.ifCond .ne 5, 3) := by decide +kernel
theorem dX5_type_11 : decode cX5_type 11 = .ok (.iconst (-1), 1) := by decide +kernel
theorem dX5_type_12 : decode cX5_type 12 = .ok (.ireturn, 1) := by decide +kernel
theorem dX5_type_13 : decode cX5_type 13 = .ok (.aload_n 0, 1) := by decide +kernel
theorem dX5_type_14 : decode cX5_type 14 = .ok (.getfield 76, 3) := by decide +kernel
theorem dX5_type_17 : decode cX5_type 17 = .ok (.sipush 150, 3) := by decide +kernel
theorem dX5_type_20 : decode cX5_type 20 = .ok (.if_icmp .ne 6, 3) := by decide +kernel
theorem dX5_type_23 : decode cX5_type 23 = .ok (.bipush (-3), 2) := by decide +kernel
theorem dX5_type_25 : decode cX5_type 25 = .ok (.ireturn, 1) := by decide +kernel
theorem dX5_type_26 : decode cX5_type 26 = .ok (.aload_n 0, 1) := by decide +kernel
theorem dX5_type_27 : decode cX5_type 27 = .ok (.getfield 38, 3) := by decide +kernel
theorem dX5_type_30 : decode cX5_type 30 = .ok (.aload_n 0, 1) := by decide +kernel
theorem dX5_type_31 : decode cX5_type 31 = .ok (.getfield 76, 3) := by decide +kernel
theorem dX5_type_34 : decode cX5_type 34 = .ok (.iload_n 1, 1) := by decide +kernel
theorem dX5_type_35 : decode cX5_type 35 = .ok (.iastore, 1) := by decide +kernel
theorem dX5_type_36 : decode cX5_type 36 = .ok (.aload_n 0, 1) := by decide +kernel
theorem dX5_type_37 : decode cX5_type 37 = .ok (.dup, 1) := by decide +kernel
theorem dX5_type_38 : decode cX5_type 38 = .ok (.getfield 76, 3) := by decide +kernel
theorem dX5_type_41 : decode cX5_type 41 = .ok (.iconst 1, 1) := by decide +kernel
theorem dX5_type_42 : decode cX5_type 42 = .ok (.iadd, 1) := by decide +kernel
theorem dX5_type_43 : decode cX5_type 43 = .ok (.putfield 76, 3) := by decide +kernel
theorem dX5_type_46 : decode cX5_type 46 = .ok (.aload_n 0, 1) := by decide +kernel
theorem dX5_type_47 : decode cX5_type 47 = .ok (.getfield 76, 3) := by decide +kernel
theorem dX5_type_50 : decode cX5_type 50 = .ok (.ireturn, 1) := by decide +kernel
theorem dX5_clear_0 : decode cX5_clear 0 = .ok (.aload_n 0, 1) := by decide +kernel
theorem dX5_clear_1 : decode cX5_clear 1 = .ok (.getfield 76, 3) := by decide +kernel
theorem dX5_clear_4 : decode cX5_clear 4 = .ok (.istore_n 1, 1) := by decide +kernel
theorem dX5_clear_5 : decode cX5_clear 5 = .ok (.aload_n 0, 1) := by decide +kernel
theorem dX5_clear_6 : decode cX5_clear 6 = .ok (.iconst 0, 1) := by decide +kernel
theorem dX5_clear_7 : decode cX5_clear 7 = .ok (.putfield 76, 3) := by decide +kernel
theorem dX5_clear_10 : decode cX5_clear 10 = .ok (.iload_n 1, 1) := by decide +kernel
theorem dX5_clear_11 : decode cX5_clear 11 = .ok (.ireturn, 1) := by decide +kernel
theorem dX5_here_0 : decode cX5_here 0 = .ok (.aload_n 0, 1) := by decide +kernel
theorem dX5_here_1 : decode cX5_here 1 = .ok (.getfield 79, 3) := by decide +kernel
theorem dX5_here_4 : decode cX5_here 4 = .ok (.aload_n 0, 1) := by decide +kernel
theorem dX5_here_5 : decode cX5_here 5 = .ok (.getfield 76, 3) := by decide +kernel
theorem dX5_here_8 : decode cX5_here 8 = .ok (.if_icmp .ge 30, 3) := by decide +kernel
theorem dX5_here_11 : decode cX5_here 11 = .ok (.aload_n 0, 1) := by decide +kernel
theorem dX5_here_12 : decode cX5_here 12 = .ok (.getfield 38, 3) := by decide +kernel
theorem dX5_here_15 : decode cX5_here 15 = .ok (.aload_n 0, 1) := by decide +kernel
theorem dX5_here_16 : decode cX5_here 16 = .ok (.getfield 79, 3) := by decide +kernel
theorem dX5_here_19 : decode cX5_here 19 = .ok (.iaload, 1) := by decide +kernel
theorem dX5_here_20 : decode cX5_here 20 = .ok (.bipush 32, 2) := by decide +kernel
theorem dX5_here_22 : decode cX5_here 22 = .ok (.if_icmp .ne 16, 3) := by decide +kernel
theorem dX5_here_25 : decode cX5_here 25 = .ok (.aload_n 0, 1) := by decide +kernel
theorem dX5_here_26 : decode cX5_here 26 = .ok (.dup, 1) := by decide +kernel
theorem dX5_here_27 : decode cX5_here 27 = .ok (.getfield 79, 3) := by decide +kernel
theorem dX5_here_30 : decode cX5_here 30 = .ok (.iconst 1, 1) := by decide +kernel
theorem dX5_here_31 : decode cX5_here 31 = .ok (.iadd, 1) := by decide +kernel
theorem dX5_here_32 : decode cX5_here 32 = .ok (.putfield 79, 3) := by decide +kernel
theorem dX5_here_35 : decode cX5_here 35 = .ok (.goto (-35), 3) := by decide +kernel
theorem dX5_here_38 : decode cX5_here 38 = .ok (.aload_n 0, 1) := by decide +kernel
theorem dX5_here_39 : decode cX5_here 39 = .ok (.getfield 79, 3) := by decide +kernel
theorem dX5_here_42 : decode cX5_here 42 = .ok (.aload_n 0, 1) := by decide +kernel
theorem dX5_here_43 : decode cX5_here 43 = .ok (.getfield 76, 3) := by decide +kernel
theorem dX5_here_46 : decode cX5_here 46 = .ok (.if_icmp .ge 15, 3) := by decide +kernel
theorem dX5_here_49 : decode cX5_here 49 = .ok (.aload_n 0, 1) := by decide +kernel
theorem dX5_here_50 : decode cX5_here 50 = .ok (.getfield 38, 3) := by decide +kernel
theorem dX5_here_53 : decode cX5_here 53 = .ok (.aload_n 0, 1) := by decide +kernel
theorem dX5_here_54 : decode cX5_here 54 = .ok (.getfield 79, 3) := by decide +kernel
theorem dX5_here_57 : decode cX5_here 57 = .ok (.iaload, 1) := by decide +kernel
theorem dX5_here_58 : decode cX5_here 58 = .ok (.goto 4, 3) := by decide +kernel
theorem dX5_here_61 : decode cX5_here 61 = .ok (.iconst (-1), 1) := by decide +kernel
theorem dX5_here_62 : decode cX5_here 62 = .ok (.ireturn, 1) := by decide +kernel
theorem dX5_reads_0 : decode cX5_reads 0 = .ok (.aload_n 0, 1) := by decide +kernel
theorem dX5_reads_1 : decode cX5_reads 1 = .ok (.invokevirtual 82, 3) := by decide +kernel
theorem dX5_reads_4 : decode cX5_reads 4 = .ok (.istore_n 3, 1) := by decide +kernel
theorem dX5_reads_5 : decode cX5_reads 5 = .ok (.aload_n 0, 1) := by decide +kernel
theorem dX5_reads_6 : decode cX5_reads 6 = .ok (.getfield 79, 3) := by decide +kernel
theorem dX5_reads_9 : decode cX5_reads 9 = .ok (.istore 4, 2) := by decide +kernel
theorem dX5_reads_11 : decode cX5_reads 11 = .ok (.iconst 0, 1) := by decide +kernel
theorem dX5_reads_12 : decode cX5_reads 12 = .ok (.istore 5, 2) := by decide +kernel
theorem dX5_reads_14 : decode cX5_reads 14 = .ok (.iload 4, 2) := by decide +kernel
theorem dX5_reads_16 : decode cX5_reads 16 = .ok (.aload_n 0, 1) := by decide +kernel
theorem dX5_reads_17 : decode cX5_reads 17 = .ok (.getfield 76, 3) := by decide +kernel
theorem dX5_reads_20 : decode cX5_reads 20 = .ok (.if_icmp .ge 56, 3) := by decide +kernel
theorem dX5_reads_23 : decode cX5_reads 23 = .ok (.aload_n 0, 1) := by decide +kernel
theorem dX5_reads_24 : decode cX5_reads 24 = .ok (.getfield 38, 3) := by decide +kernel
theorem dX5_reads_27 : decode cX5_reads 27 = .ok (.iload 4, 2) := by decide +kernel
theorem dX5_reads_29 : decode cX5_reads 29 = .ok (.iaload, 1) := by decide +kernel
theorem dX5_reads_30 : decode cX5_reads 30 = .ok (.bipush 48, 2) := by decide +kernel
theorem dX5_reads_32 : decode cX5_reads 32 = .ok (.bipush 57, 2) := by decide +kernel
theorem dX5_reads_34 : decode cX5_reads 34 = .ok (.invokestatic 72, 3) := by decide +kernel
theorem dX5_reads_37 : decode cX5_reads 37 = .ok (.ifCond .eq 39, 3) := by decide +kernel
theorem dX5_reads_40 : decode cX5_reads 40 = .ok (.iload 5, 2) := by decide +kernel
theorem dX5_reads_42 : decode cX5_reads 42 = .ok (.bipush 99, 2) := by decide +kernel
theorem dX5_reads_44 : decode cX5_reads 44 = .ok (.if_icmp .le 8, 3) := by decide +kernel
theorem dX5_reads_47 : decode cX5_reads 47 = .ok (.iload 5, 2) := by decide +kernel
theorem dX5_reads_49 : decode cX5_reads 49 = .ok (.goto 19, 3) := by decide +kernel
theorem dX5_reads_52 : decode cX5_reads 52 = .ok (.bipush 10, 2) := by decide +kernel
theorem dX5_reads_54 : decode cX5_reads 54 = .ok (.iload 5, 2) := by decide +kernel
theorem dX5_reads_56 : decode cX5_reads 56 = .ok (.imul, 1) := by decide +kernel
theorem dX5_reads_57 : decode cX5_reads 57 = .ok (.aload_n 0, 1) := by decide +kernel
theorem dX5_reads_58 : decode cX5_reads 58 = .ok (.getfield 38, 3) := by decide +kernel
theorem dX5_reads_61 : decode cX5_reads 61 = .ok (.iload 4, 2) := by decide +kernel
theorem dX5_reads_63 : decode cX5_reads 63 = .ok (.iaload, 1) := by decide +kernel
theorem dX5_reads_64 : decode cX5_reads 64 = .ok (.iadd, 1) := by decide +kernel
theorem dX5_reads_65 : decode cX5_reads 65 = .ok (.bipush 48, 2) := by decide +kernel
theorem dX5_reads_67 : decode cX5_reads 67 = .ok (.isub, 1) := by decide +kernel
theorem dX5_reads_68 : decode cX5_reads 68 = .ok (.istore 5, 2) := by decide +kernel
theorem dX5_reads_70 : decode cX5_reads 70 = .ok (.iinc 4 1, 3) := by decide +kernel
theorem dX5_reads_73 : decode cX5_reads 73 = .ok (.goto (-59), 3) := by decide +kernel
theorem dX5_reads_76 : decode cX5_reads 76 = .ok (.iload 4, 2) := by decide +kernel
theorem dX5_reads_78 : decode cX5_reads 78 = .ok (.aload_n 0, 1) := by decide +kernel
theorem dX5_reads_79 : decode cX5_reads 79 = .ok (.getfield 79, 3) := by decide +kernel
theorem dX5_reads_82 : decode cX5_reads 82 = .ok (.if_icmp .le 34, 3) := by decide +kernel
theorem dX5_reads_85 : decode cX5_reads 85 = .ok (.iload_n 3, 1) := by decide +kernel
theorem dX5_reads_86 : decode cX5_reads 86 = .ok (.bipush 48, 2) := by decide +kernel
theorem dX5_reads_88 : decode cX5_reads 88 = .ok (.if_icmp .ne 14, 3) := by decide +kernel
theorem dX5_reads_91 : decode cX5_reads 91 = .ok (.iload 4, 2) := by decide +kernel
theorem dX5_reads_93 : decode cX5_reads 93 = .ok (.aload_n 0, 1) := by decide +kernel
theorem dX5_reads_94 : decode cX5_reads 94 = .ok (.getfield 79, 3) := by decide +kernel
theorem dX5_reads_97 : decode cX5_reads 97 = .ok (.iconst 1, 1) := by decide +kernel
theorem dX5_reads_98 : decode cX5_reads 98 = .ok (.iadd, 1) := by decide +kernel
theorem dX5_reads_99 : decode cX5_reads 99 = .ok (.if_icmp .ne 17, 3) := by decide +kernel
theorem dX5_reads_102 : decode cX5_reads 102 = .ok (.iload 5, 2) := by decide +kernel
theorem dX5_reads_104 : decode cX5_reads 104 = .ok (.iload_n 1, 1) := by decide +kernel
theorem dX5_reads_105 : decode cX5_reads 105 = .ok (.iload_n 2, 1) := by decide +kernel
theorem dX5_reads_106 : decode cX5_reads 106 = .ok (.invokestatic 72, 3) := by decide +kernel
theorem dX5_reads_109 : decode cX5_reads 109 = .ok (.ifCond .eq 7, 3) := by decide +kernel
theorem dX5_reads_112 : decode cX5_reads 112 = .ok (.iconst 1, 1) := by decide +kernel
theorem dX5_reads_113 : decode cX5_reads 113 = .ok (.goto 4, 3) := by decide +kernel
theorem dX5_reads_116 : decode cX5_reads 116 = .ok (.iconst 0, 1) := by decide +kernel
theorem dX5_reads_117 : decode cX5_reads 117 = .ok (.istore 6, 2) := by decide +kernel
theorem dX5_reads_119 : decode cX5_reads 119 = .ok (.aload_n 0, 1) := by decide +kernel
theorem dX5_reads_120 : decode cX5_reads 120 = .ok (.iload 6, 2) := by decide +kernel
theorem dX5_reads_122 : decode cX5_reads 122 = .ok (.ifCond .eq 8, 3) := by decide +kernel
theorem dX5_reads_125 : decode cX5_reads 125 = .ok (.iload 4, 2) := by decide +kernel
theorem dX5_reads_127 : decode cX5_reads 127 = .ok (.goto 7, 3) := by decide +kernel
theorem dX5_reads_130 : decode cX5_reads 130 = .ok (.aload_n 0, 1) := by decide +kernel
theorem dX5_reads_131 : decode cX5_reads 131 = .ok (.getfield 79, 3) := by decide +kernel
theorem dX5_reads_134 : decode cX5_reads 134 = .ok (.putfield 79, 3) := by decide +kernel
theorem dX5_reads_137 : decode cX5_reads 137 = .ok (.aload_n 0, 1) := by decide +kernel
theorem dX5_reads_138 : decode cX5_reads 138 = .ok (.iload 5, 2) := by decide +kernel
theorem dX5_reads_140 : decode cX5_reads 140 = .ok (.putfield 86, 3) := by decide +kernel
theorem dX5_reads_143 : decode cX5_reads 143 = .ok (.iload 6, 2) := by decide +kernel
theorem dX5_reads_145 : decode cX5_reads 145 = .ok (.ireturn, 1) := by decide +kernel
theorem dX5_bows_0 : decode cX5_bows 0 = .ok (.iconst 0, 1) := by decide +kernel
theorem dX5_bows_1 : decode cX5_bows 1 = .ok (.istore_n 1, 1) := by decide +kernel
theorem dX5_bows_2 : decode cX5_bows 2 = .ok (.iconst 0, 1) := by decide +kernel
theorem dX5_bows_3 : decode cX5_bows 3 = .ok (.istore_n 2, 1) := by decide +kernel
theorem dX5_bows_4 : decode cX5_bows 4 = .ok (.iload_n 2, 1) := by decide +kernel
theorem dX5_bows_5 : decode cX5_bows 5 = .ok (.aload_n 0, 1) := by decide +kernel
theorem dX5_bows_6 : decode cX5_bows 6 = .ok (.getfield 59, 3) := by decide +kernel
theorem dX5_bows_9 : decode cX5_bows 9 = .ok (.if_icmp .ge 29, 3) := by decide +kernel
theorem dX5_bows_12 : decode cX5_bows 12 = .ok (.iload_n 1, 1) := by decide +kernel
theorem dX5_bows_13 : decode cX5_bows 13 = .ok (.aload_n 0, 1) := by decide +kernel
theorem dX5_bows_14 : decode cX5_bows 14 = .ok (.getfield 32, 3) := by decide +kernel
theorem dX5_bows_17 : decode cX5_bows 17 = .ok (.iconst 5, 1) := by decide +kernel
theorem dX5_bows_18 : decode cX5_bows 18 = .ok (.iload_n 2, 1) := by decide +kernel
theorem dX5_bows_19 : decode cX5_bows 19 = .ok (.imul, 1) := by decide +kernel
theorem dX5_bows_20 : decode cX5_bows 20 = .ok (.iaload, 1) := by decide +kernel
theorem dX5_bows_21 : decode cX5_bows 21 = .ok (.iconst 1, 1) := by decide +kernel
theorem dX5_bows_22 : decode cX5_bows 22 = .ok (.if_icmp .ne 7, 3) := by decide +kernel
theorem dX5_bows_25 : decode cX5_bows 25 = .ok (.iconst 1, 1) := by decide +kernel
theorem dX5_bows_26 : decode cX5_bows 26 = .ok (.goto 4, 3) := by decide +kernel
theorem dX5_bows_29 : decode cX5_bows 29 = .ok (.iconst 0, 1) := by decide +kernel
theorem dX5_bows_30 : decode cX5_bows 30 = .ok (.iadd, 1) := by decide +kernel
theorem dX5_bows_31 : decode cX5_bows 31 = .ok (.istore_n 1, 1) := by decide +kernel
theorem dX5_bows_32 : decode cX5_bows 32 = .ok (.iinc 2 1, 3) := by decide +kernel
theorem dX5_bows_35 : decode cX5_bows 35 = .ok (.goto (-31), 3) := by decide +kernel
theorem dX5_bows_38 : decode cX5_bows 38 = .ok (.iload_n 1, 1) := by decide +kernel
theorem dX5_bows_39 : decode cX5_bows 39 = .ok (.ireturn, 1) := by decide +kernel
theorem dX5_readsPlayer_0 : decode cX5_readsPlayer 0 = .ok (.aload_n 0, 1) := by decide +kernel
theorem dX5_readsPlayer_1 : decode cX5_readsPlayer 1 = .ok (.getfield 59, 3) := by decide +kernel
theorem dX5_readsPlayer_4 : decode cX5_readsPlayer 4 = .ok (.iconst 4, 1) := by decide +kernel
theorem dX5_readsPlayer_5 : decode cX5_readsPlayer 5 = .ok (.if_icmp .eq 16, 3) := by decide +kernel
theorem dX5_readsPlayer_8 : decode cX5_readsPlayer 8 = .ok (.iload_n 1, 1) := by decide +kernel
theorem dX5_readsPlayer_9 : decode cX5_readsPlayer 9 = .ok (.iconst 1, 1) := by decide +kernel
theorem dX5_readsPlayer_10 : decode cX5_readsPlayer 10 = .ok (.if_icmp .ne 13, 3) := by decide +kernel
theorem dX5_readsPlayer_13 : decode cX5_readsPlayer 13 = .ok (.aload_n 0, 1) := by decide +kernel
theorem dX5_readsPlayer_14 : decode cX5_readsPlayer 14 = .ok (.invokevirtual 89, 3) := by decide +kernel
theorem dX5_readsPlayer_17 : decode cX5_readsPlayer 17 = .ok (.iconst 2, 1) := by decide +kernel
theorem dX5_readsPlayer_18 : decode cX5_readsPlayer 18 = .ok (.if_icmp .ne 5, 3) := by decide +kernel
theorem dX5_readsPlayer_21 : decode cX5_readsPlayer 21 = .ok (.iconst 0, 1) := by decide +kernel
theorem dX5_readsPlayer_22 : decode cX5_readsPlayer 22 = .ok (.ireturn, 1) := by decide +kernel
theorem dX5_readsPlayer_23 : decode cX5_readsPlayer 23 = .ok (.aload_n 0, 1) := by decide +kernel
theorem dX5_readsPlayer_24 : decode cX5_readsPlayer 24 = .ok (.dup, 1) := by decide +kernel
theorem dX5_readsPlayer_25 : decode cX5_readsPlayer 25 = .ok (.getfield 79, 3) := by decide +kernel
theorem dX5_readsPlayer_28 : decode cX5_readsPlayer 28 = .ok (.iconst 1, 1) := by decide +kernel
theorem dX5_readsPlayer_29 : decode cX5_readsPlayer 29 = .ok (.iadd, 1) := by decide +kernel
theorem dX5_readsPlayer_30 : decode cX5_readsPlayer 30 = .ok (.putfield 79, 3) := by decide +kernel
theorem dX5_readsPlayer_33 : decode cX5_readsPlayer 33 = .ok (.iconst 5, 1) := by decide +kernel
theorem dX5_readsPlayer_34 : decode cX5_readsPlayer 34 = .ok (.aload_n 0, 1) := by decide +kernel
theorem dX5_readsPlayer_35 : decode cX5_readsPlayer 35 = .ok (.getfield 59, 3) := by decide +kernel
theorem dX5_readsPlayer_38 : decode cX5_readsPlayer 38 = .ok (.imul, 1) := by decide +kernel
theorem dX5_readsPlayer_39 : decode cX5_readsPlayer 39 = .ok (.istore_n 2, 1) := by decide +kernel
theorem dX5_readsPlayer_40 : decode cX5_readsPlayer 40 = .ok (.aload_n 0, 1) := by decide +kernel
theorem dX5_readsPlayer_41 : decode cX5_readsPlayer 41 = .ok (.iconst 0, 1) := by decide +kernel
theorem dX5_readsPlayer_42 : decode cX5_readsPlayer 42 = .ok (.bipush 60, 2) := by decide +kernel
theorem dX5_readsPlayer_44 : decode cX5_readsPlayer 44 = .ok (.invokevirtual 92, 3) := by decide +kernel
theorem dX5_readsPlayer_47 : decode cX5_readsPlayer 47 = .ok (.ifCond .ne 5, 3) := by decide +kernel
theorem dX5_readsPlayer_50 : decode cX5_readsPlayer 50 = .ok (.iconst 0, 1) := by decide +kernel
theorem dX5_readsPlayer_51 : decode cX5_readsPlayer 51 = .ok (.ireturn, 1) := by decide +kernel
theorem dX5_readsPlayer_52 : decode cX5_readsPlayer 52 = .ok (.aload_n 0, 1) := by decide +kernel
theorem dX5_readsPlayer_53 : decode cX5_readsPlayer 53 = .ok (.getfield 32, 3) := by decide +kernel
theorem dX5_readsPlayer_56 : decode cX5_readsPlayer 56 = .ok (.iload_n 2, 1) := by decide +kernel
theorem dX5_readsPlayer_57 : decode cX5_readsPlayer 57 = .ok (.iconst 1, 1) := by decide +kernel
theorem dX5_readsPlayer_58 : decode cX5_readsPlayer 58 = .ok (.iadd, 1) := by decide +kernel
theorem dX5_readsPlayer_59 : decode cX5_readsPlayer 59 = .ok (.aload_n 0, 1) := by decide +kernel
theorem dX5_readsPlayer_60 : decode cX5_readsPlayer 60 = .ok (.getfield 86, 3) := by decide +kernel
theorem dX5_readsPlayer_63 : decode cX5_readsPlayer 63 = .ok (.iastore, 1) := by decide +kernel
theorem dX5_readsPlayer_64 : decode cX5_readsPlayer 64 = .ok (.aload_n 0, 1) := by decide +kernel
theorem dX5_readsPlayer_65 : decode cX5_readsPlayer 65 = .ok (.aload_n 0, 1) := by decide +kernel
theorem dX5_readsPlayer_66 : decode cX5_readsPlayer 66 = .ok (.getfield 86, 3) := by decide +kernel
theorem dX5_readsPlayer_69 : decode cX5_readsPlayer 69 = .ok (.bipush 60, 2) := by decide +kernel
theorem dX5_readsPlayer_71 : decode cX5_readsPlayer 71 = .ok (.invokevirtual 92, 3) := by decide +kernel
theorem dX5_readsPlayer_74 : decode cX5_readsPlayer 74 = .ok (.ifCond .ne 5, 3) := by decide +kernel
theorem dX5_readsPlayer_77 : decode cX5_readsPlayer 77 = .ok (.iconst 0, 1) := by decide +kernel
theorem dX5_readsPlayer_78 : decode cX5_readsPlayer 78 = .ok (.ireturn, 1) := by decide +kernel
theorem dX5_readsPlayer_79 : decode cX5_readsPlayer 79 = .ok (.aload_n 0, 1) := by decide +kernel
theorem dX5_readsPlayer_80 : decode cX5_readsPlayer 80 = .ok (.getfield 32, 3) := by decide +kernel
theorem dX5_readsPlayer_83 : decode cX5_readsPlayer 83 = .ok (.iload_n 2, 1) := by decide +kernel
theorem dX5_readsPlayer_84 : decode cX5_readsPlayer 84 = .ok (.iconst 2, 1) := by decide +kernel
theorem dX5_readsPlayer_85 : decode cX5_readsPlayer 85 = .ok (.iadd, 1) := by decide +kernel
theorem dX5_readsPlayer_86 : decode cX5_readsPlayer 86 = .ok (.aload_n 0, 1) := by decide +kernel
theorem dX5_readsPlayer_87 : decode cX5_readsPlayer 87 = .ok (.getfield 86, 3) := by decide +kernel
theorem dX5_readsPlayer_90 : decode cX5_readsPlayer 90 = .ok (.iastore, 1) := by decide +kernel
theorem dX5_readsPlayer_91 : decode cX5_readsPlayer 91 = .ok (.aload_n 0, 1) := by decide +kernel
theorem dX5_readsPlayer_92 : decode cX5_readsPlayer 92 = .ok (.iconst 2, 1) := by decide +kernel
theorem dX5_readsPlayer_93 : decode cX5_readsPlayer 93 = .ok (.bipush 9, 2) := by decide +kernel
theorem dX5_readsPlayer_95 : decode cX5_readsPlayer 95 = .ok (.invokevirtual 92, 3) := by decide +kernel
theorem dX5_readsPlayer_98 : decode cX5_readsPlayer 98 = .ok (.ifCond .ne 5, 3) := by decide +kernel
theorem dX5_readsPlayer_101 : decode cX5_readsPlayer 101 = .ok (.iconst 0, 1) := by decide +kernel
theorem dX5_readsPlayer_102 : decode cX5_readsPlayer 102 = .ok (.ireturn, 1) := by decide +kernel
theorem dX5_readsPlayer_103 : decode cX5_readsPlayer 103 = .ok (.aload_n 0, 1) := by decide +kernel
theorem dX5_readsPlayer_104 : decode cX5_readsPlayer 104 = .ok (.getfield 32, 3) := by decide +kernel
theorem dX5_readsPlayer_107 : decode cX5_readsPlayer 107 = .ok (.iload_n 2, 1) := by decide +kernel
theorem dX5_readsPlayer_108 : decode cX5_readsPlayer 108 = .ok (.iconst 3, 1) := by decide +kernel
theorem dX5_readsPlayer_109 : decode cX5_readsPlayer 109 = .ok (.iadd, 1) := by decide +kernel
theorem dX5_readsPlayer_110 : decode cX5_readsPlayer 110 = .ok (.aload_n 0, 1) := by decide +kernel
theorem dX5_readsPlayer_111 : decode cX5_readsPlayer 111 = .ok (.getfield 86, 3) := by decide +kernel
theorem dX5_readsPlayer_114 : decode cX5_readsPlayer 114 = .ok (.iastore, 1) := by decide +kernel
theorem dX5_readsPlayer_115 : decode cX5_readsPlayer 115 = .ok (.aload_n 0, 1) := by decide +kernel
theorem dX5_readsPlayer_116 : decode cX5_readsPlayer 116 = .ok (.getfield 32, 3) := by decide +kernel
theorem dX5_readsPlayer_119 : decode cX5_readsPlayer 119 = .ok (.iload_n 2, 1) := by decide +kernel
theorem dX5_readsPlayer_120 : decode cX5_readsPlayer 120 = .ok (.iconst 4, 1) := by decide +kernel
theorem dX5_readsPlayer_121 : decode cX5_readsPlayer 121 = .ok (.iadd, 1) := by decide +kernel
theorem dX5_readsPlayer_122 : decode cX5_readsPlayer 122 = .ok (.iconst 0, 1) := by decide +kernel
theorem dX5_readsPlayer_123 : decode cX5_readsPlayer 123 = .ok (.iastore, 1) := by decide +kernel
theorem dX5_readsPlayer_124 : decode cX5_readsPlayer 124 = .ok (.iload_n 1, 1) := by decide +kernel
theorem dX5_readsPlayer_125 : decode cX5_readsPlayer 125 = .ok (.iconst 1, 1) := by decide +kernel
theorem dX5_readsPlayer_126 : decode cX5_readsPlayer 126 = .ok (.if_icmp .ne 27, 3) := by decide +kernel
theorem dX5_readsPlayer_129 : decode cX5_readsPlayer 129 = .ok (.aload_n 0, 1) := by decide +kernel
theorem dX5_readsPlayer_130 : decode cX5_readsPlayer 130 = .ok (.iconst 0, 1) := by decide +kernel
theorem dX5_readsPlayer_131 : decode cX5_readsPlayer 131 = .ok (.bipush 12, 2) := by decide +kernel
theorem dX5_readsPlayer_133 : decode cX5_readsPlayer 133 = .ok (.invokevirtual 92, 3) := by decide +kernel
theorem dX5_readsPlayer_136 : decode cX5_readsPlayer 136 = .ok (.ifCond .ne 5, 3) := by decide +kernel
theorem dX5_readsPlayer_139 : decode cX5_readsPlayer 139 = .ok (.iconst 0, 1) := by decide +kernel
theorem dX5_readsPlayer_140 : decode cX5_readsPlayer 140 = .ok (.ireturn, 1) := by decide +kernel
theorem dX5_readsPlayer_141 : decode cX5_readsPlayer 141 = .ok (.aload_n 0, 1) := by decide +kernel
theorem dX5_readsPlayer_142 : decode cX5_readsPlayer 142 = .ok (.getfield 32, 3) := by decide +kernel
theorem dX5_readsPlayer_145 : decode cX5_readsPlayer 145 = .ok (.iload_n 2, 1) := by decide +kernel
theorem dX5_readsPlayer_146 : decode cX5_readsPlayer 146 = .ok (.iconst 4, 1) := by decide +kernel
theorem dX5_readsPlayer_147 : decode cX5_readsPlayer 147 = .ok (.iadd, 1) := by decide +kernel
theorem dX5_readsPlayer_148 : decode cX5_readsPlayer 148 = .ok (.aload_n 0, 1) := by decide +kernel
theorem dX5_readsPlayer_149 : decode cX5_readsPlayer 149 = .ok (.getfield 86, 3) := by decide +kernel
theorem dX5_readsPlayer_152 : decode cX5_readsPlayer 152 = .ok (.iastore, 1) := by decide +kernel
theorem dX5_readsPlayer_153 : decode cX5_readsPlayer 153 = .ok (.aload_n 0, 1) := by decide +kernel
theorem dX5_readsPlayer_154 : decode cX5_readsPlayer 154 = .ok (.getfield 32, 3) := by decide +kernel
theorem dX5_readsPlayer_157 : decode cX5_readsPlayer 157 = .ok (.iload_n 2, 1) := by decide +kernel
theorem dX5_readsPlayer_158 : decode cX5_readsPlayer 158 = .ok (.iload_n 1, 1) := by decide +kernel
theorem dX5_readsPlayer_159 : decode cX5_readsPlayer 159 = .ok (.iastore, 1) := by decide +kernel
theorem dX5_readsPlayer_160 : decode cX5_readsPlayer 160 = .ok (.aload_n 0, 1) := by decide +kernel
theorem dX5_readsPlayer_161 : decode cX5_readsPlayer 161 = .ok (.dup, 1) := by decide +kernel
theorem dX5_readsPlayer_162 : decode cX5_readsPlayer 162 = .ok (.getfield 59, 3) := by decide +kernel
theorem dX5_readsPlayer_165 : decode cX5_readsPlayer 165 = .ok (.iconst 1, 1) := by decide +kernel
theorem dX5_readsPlayer_166 : decode cX5_readsPlayer 166 = .ok (.iadd, 1) := by decide +kernel
theorem dX5_readsPlayer_167 : decode cX5_readsPlayer 167 = .ok (.putfield 59, 3) := by decide +kernel
theorem dX5_readsPlayer_170 : decode cX5_readsPlayer 170 = .ok (.iconst 1, 1) := by decide +kernel
theorem dX5_readsPlayer_171 : decode cX5_readsPlayer 171 = .ok (.ireturn, 1) := by decide +kernel
theorem dX5_readsChord_0 : decode cX5_readsChord 0 = .ok (.aload_n 0, 1) := by decide +kernel
theorem dX5_readsChord_1 : decode cX5_readsChord 1 = .ok (.getfield 35, 3) := by decide +kernel
theorem dX5_readsChord_4 : decode cX5_readsChord 4 = .ok (.iconst 0, 1) := by decide +kernel
theorem dX5_readsChord_5 : decode cX5_readsChord 5 = .ok (.iaload, 1) := by decide +kernel
theorem dX5_readsChord_6 : decode cX5_readsChord 6 = .ok (.bipush 8, 2) := by decide +kernel
theorem dX5_readsChord_8 : decode cX5_readsChord 8 = .ok (.if_icmp .ne 5, 3) := by decide +kernel
theorem dX5_readsChord_11 : decode cX5_readsChord 11 = .ok (.iconst 0, 1) := by decide +kernel
theorem dX5_readsChord_12 : decode cX5_readsChord 12 = .ok (.ireturn, 1) := by decide +kernel
theorem dX5_readsChord_13 : decode cX5_readsChord 13 = .ok (.aload_n 0, 1) := by decide +kernel
theorem dX5_readsChord_14 : decode cX5_readsChord 14 = .ok (.dup, 1) := by decide +kernel
theorem dX5_readsChord_15 : decode cX5_readsChord 15 = .ok (.getfield 79, 3) := by decide +kernel
theorem dX5_readsChord_18 : decode cX5_readsChord 18 = .ok (.iconst 1, 1) := by decide +kernel
theorem dX5_readsChord_19 : decode cX5_readsChord 19 = .ok (.iadd, 1) := by decide +kernel
theorem dX5_readsChord_20 : decode cX5_readsChord 20 = .ok (.putfield 79, 3) := by decide +kernel
theorem dX5_readsChord_23 : decode cX5_readsChord 23 = .ok (.iconst 1, 1) := by decide +kernel
theorem dX5_readsChord_24 : decode cX5_readsChord 24 = .ok (.iconst 4, 1) := by decide +kernel
theorem dX5_readsChord_25 : decode cX5_readsChord 25 = .ok (.aload_n 0, 1) := by decide +kernel
theorem dX5_readsChord_26 : decode cX5_readsChord 26 = .ok (.getfield 35, 3) := by decide +kernel
theorem dX5_readsChord_29 : decode cX5_readsChord 29 = .ok (.iconst 0, 1) := by decide +kernel
theorem dX5_readsChord_30 : decode cX5_readsChord 30 = .ok (.iaload, 1) := by decide +kernel
theorem dX5_readsChord_31 : decode cX5_readsChord 31 = .ok (.imul, 1) := by decide +kernel
theorem dX5_readsChord_32 : decode cX5_readsChord 32 = .ok (.iadd, 1) := by decide +kernel
theorem dX5_readsChord_33 : decode cX5_readsChord 33 = .ok (.istore_n 1, 1) := by decide +kernel
theorem dX5_readsChord_34 : decode cX5_readsChord 34 = .ok (.iconst 0, 1) := by decide +kernel
theorem dX5_readsChord_35 : decode cX5_readsChord 35 = .ok (.istore_n 2, 1) := by decide +kernel
theorem dX5_readsChord_36 : decode cX5_readsChord 36 = .ok (.iconst 0, 1) := by decide +kernel
theorem dX5_readsChord_37 : decode cX5_readsChord 37 = .ok (.istore_n 3, 1) := by decide +kernel
theorem dX5_readsChord_38 : decode cX5_readsChord 38 = .ok (.iload_n 2, 1) := by decide +kernel
theorem dX5_readsChord_39 : decode cX5_readsChord 39 = .ok (.iconst 3, 1) := by decide +kernel
theorem dX5_readsChord_40 : decode cX5_readsChord 40 = .ok (.if_icmp .ge 53, 3) := by decide +kernel
theorem dX5_readsChord_43 : decode cX5_readsChord 43 = .ok (.iload_n 2, 1) := by decide +kernel
theorem dX5_readsChord_44 : decode cX5_readsChord 44 = .ok (.ifCond .eq 12, 3) := by decide +kernel
theorem dX5_readsChord_47 : decode cX5_readsChord 47 = .ok (.aload_n 0, 1) := by decide +kernel
theorem dX5_readsChord_48 : decode cX5_readsChord 48 = .ok (.invokevirtual 82, 3) := by decide +kernel
theorem dX5_readsChord_51 : decode cX5_readsChord 51 = .ok (.bipush 59, 2) := by decide +kernel
theorem dX5_readsChord_53 : decode cX5_readsChord 53 = .ok (.if_icmp .eq 40, 3) := by decide +kernel
theorem dX5_readsChord_56 : decode cX5_readsChord 56 = .ok (.aload_n 0, 1) := by decide +kernel
theorem dX5_readsChord_57 : decode cX5_readsChord 57 = .ok (.iload_n 3, 1) := by decide +kernel
theorem dX5_readsChord_58 : decode cX5_readsChord 58 = .ok (.bipush 60, 2) := by decide +kernel
theorem dX5_readsChord_60 : decode cX5_readsChord 60 = .ok (.invokevirtual 92, 3) := by decide +kernel
theorem dX5_readsChord_63 : decode cX5_readsChord 63 = .ok (.ifCond .ne 5, 3) := by decide +kernel
theorem dX5_readsChord_66 : decode cX5_readsChord 66 = .ok (.iconst 0, 1) := by decide +kernel
theorem dX5_readsChord_67 : decode cX5_readsChord 67 = .ok (.ireturn, 1) := by decide +kernel
theorem dX5_readsChord_68 : decode cX5_readsChord 68 = .ok (.iinc 2 1, 3) := by decide +kernel
theorem dX5_readsChord_71 : decode cX5_readsChord 71 = .ok (.aload_n 0, 1) := by decide +kernel
theorem dX5_readsChord_72 : decode cX5_readsChord 72 = .ok (.getfield 35, 3) := by decide +kernel
theorem dX5_readsChord_75 : decode cX5_readsChord 75 = .ok (.iload_n 1, 1) := by decide +kernel
theorem dX5_readsChord_76 : decode cX5_readsChord 76 = .ok (.iload_n 2, 1) := by decide +kernel
theorem dX5_readsChord_77 : decode cX5_readsChord 77 = .ok (.iadd, 1) := by decide +kernel
theorem dX5_readsChord_78 : decode cX5_readsChord 78 = .ok (.aload_n 0, 1) := by decide +kernel
theorem dX5_readsChord_79 : decode cX5_readsChord 79 = .ok (.getfield 86, 3) := by decide +kernel
theorem dX5_readsChord_82 : decode cX5_readsChord 82 = .ok (.iastore, 1) := by decide +kernel
theorem dX5_readsChord_83 : decode cX5_readsChord 83 = .ok (.aload_n 0, 1) := by decide +kernel
theorem dX5_readsChord_84 : decode cX5_readsChord 84 = .ok (.getfield 86, 3) := by decide +kernel
theorem dX5_readsChord_87 : decode cX5_readsChord 87 = .ok (.iconst 1, 1) := by decide +kernel
theorem dX5_readsChord_88 : decode cX5_readsChord 88 = .ok (.iadd, 1) := by decide +kernel
theorem dX5_readsChord_89 : decode cX5_readsChord 89 = .ok (.istore_n 3, 1) := by decide +kernel
theorem dX5_readsChord_90 : decode cX5_readsChord 90 = .ok (.goto (-52), 3) := by decide +kernel
theorem dX5_readsChord_93 : decode cX5_readsChord 93 = .ok (.aload_n 0, 1) := by decide +kernel
theorem dX5_readsChord_94 : decode cX5_readsChord 94 = .ok (.getfield 35, 3) := by decide +kernel
theorem dX5_readsChord_97 : decode cX5_readsChord 97 = .ok (.iload_n 1, 1) := by decide +kernel
theorem dX5_readsChord_98 : decode cX5_readsChord 98 = .ok (.iload_n 2, 1) := by decide +kernel
theorem dX5_readsChord_99 : decode cX5_readsChord 99 = .ok (.iastore, 1) := by decide +kernel
theorem dX5_readsChord_100 : decode cX5_readsChord 100 = .ok (.aload_n 0, 1) := by decide +kernel
theorem dX5_readsChord_101 : decode cX5_readsChord 101 = .ok (.getfield 35, 3) := by decide +kernel
theorem dX5_readsChord_104 : decode cX5_readsChord 104 = .ok (.iconst 0, 1) := by decide +kernel
theorem dX5_readsChord_105 : decode cX5_readsChord 105 = .ok (.dup2, 1) := by decide +kernel
theorem dX5_readsChord_106 : decode cX5_readsChord 106 = .ok (.iaload, 1) := by decide +kernel
theorem dX5_readsChord_107 : decode cX5_readsChord 107 = .ok (.iconst 1, 1) := by decide +kernel
theorem dX5_readsChord_108 : decode cX5_readsChord 108 = .ok (.iadd, 1) := by decide +kernel
theorem dX5_readsChord_109 : decode cX5_readsChord 109 = .ok (.iastore, 1) := by decide +kernel
theorem dX5_readsChord_110 : decode cX5_readsChord 110 = .ok (.iconst 1, 1) := by decide +kernel
theorem dX5_readsChord_111 : decode cX5_readsChord 111 = .ok (.ireturn, 1) := by decide +kernel
theorem dX5_readsQuiet_0 : decode cX5_readsQuiet 0 = .ok (.aload_n 0, 1) := by decide +kernel
theorem dX5_readsQuiet_1 : decode cX5_readsQuiet 1 = .ok (.getfield 96, 3) := by decide +kernel
theorem dX5_readsQuiet_4 : decode cX5_readsQuiet 4 = .ok (.ifCond .eq 5, 3) := by decide +kernel
theorem dX5_readsQuiet_7 : decode cX5_readsQuiet 7 = .ok (.iconst 0, 1) := by decide +kernel
theorem dX5_readsQuiet_8 : decode cX5_readsQuiet 8 = .ok (.ireturn, 1) := by decide +kernel
theorem dX5_readsQuiet_9 : decode cX5_readsQuiet 9 = .ok (.aload_n 0, 1) := by decide +kernel
theorem dX5_readsQuiet_10 : decode cX5_readsQuiet 10 = .ok (.dup, 1) := by decide +kernel
theorem dX5_readsQuiet_11 : decode cX5_readsQuiet 11 = .ok (.getfield 79, 3) := by decide +kernel
theorem dX5_readsQuiet_14 : decode cX5_readsQuiet 14 = .ok (.iconst 1, 1) := by decide +kernel
theorem dX5_readsQuiet_15 : decode cX5_readsQuiet 15 = .ok (.iadd, 1) := by decide +kernel
theorem dX5_readsQuiet_16 : decode cX5_readsQuiet 16 = .ok (.putfield 79, 3) := by decide +kernel
theorem dX5_readsQuiet_19 : decode cX5_readsQuiet 19 = .ok (.aload_n 0, 1) := by decide +kernel
theorem dX5_readsQuiet_20 : decode cX5_readsQuiet 20 = .ok (.iconst 1, 1) := by decide +kernel
theorem dX5_readsQuiet_21 : decode cX5_readsQuiet 21 = .ok (.putfield 96, 3) := by decide +kernel
theorem dX5_readsQuiet_24 : decode cX5_readsQuiet 24 = .ok (.aload_n 0, 1) := by decide +kernel
theorem dX5_readsQuiet_25 : decode cX5_readsQuiet 25 = .ok (.iconst 0, 1) := by decide +kernel
theorem dX5_readsQuiet_26 : decode cX5_readsQuiet 26 = .ok (.bipush 20, 2) := by decide +kernel
theorem dX5_readsQuiet_28 : decode cX5_readsQuiet 28 = .ok (.invokevirtual 92, 3) := by decide +kernel
theorem dX5_readsQuiet_31 : decode cX5_readsQuiet 31 = .ok (.ifCond .ne 5, 3) := by decide +kernel
theorem dX5_readsQuiet_34 : decode cX5_readsQuiet 34 = .ok (.iconst 0, 1) := by decide +kernel
theorem dX5_readsQuiet_35 : decode cX5_readsQuiet 35 = .ok (.ireturn, 1) := by decide +kernel
theorem dX5_readsQuiet_36 : decode cX5_readsQuiet 36 = .ok (.aload_n 0, 1) := by decide +kernel
theorem dX5_readsQuiet_37 : decode cX5_readsQuiet 37 = .ok (.getfield 35, 3) := by decide +kernel
theorem dX5_readsQuiet_40 : decode cX5_readsQuiet 40 = .ok (.bipush 34, 2) := by decide +kernel
theorem dX5_readsQuiet_42 : decode cX5_readsQuiet 42 = .ok (.aload_n 0, 1) := by decide +kernel
theorem dX5_readsQuiet_43 : decode cX5_readsQuiet 43 = .ok (.getfield 86, 3) := by decide +kernel
theorem dX5_readsQuiet_46 : decode cX5_readsQuiet 46 = .ok (.iastore, 1) := by decide +kernel
theorem dX5_readsQuiet_47 : decode cX5_readsQuiet 47 = .ok (.aload_n 0, 1) := by decide +kernel
theorem dX5_readsQuiet_48 : decode cX5_readsQuiet 48 = .ok (.iconst 0, 1) := by decide +kernel
theorem dX5_readsQuiet_49 : decode cX5_readsQuiet 49 = .ok (.bipush 30, 2) := by decide +kernel
theorem dX5_readsQuiet_51 : decode cX5_readsQuiet 51 = .ok (.invokevirtual 92, 3) := by decide +kernel
theorem dX5_readsQuiet_54 : decode cX5_readsQuiet 54 = .ok (.ifCond .ne 5, 3) := by decide +kernel
theorem dX5_readsQuiet_57 : decode cX5_readsQuiet 57 = .ok (.iconst 0, 1) := by decide +kernel
theorem dX5_readsQuiet_58 : decode cX5_readsQuiet 58 = .ok (.ireturn, 1) := by decide +kernel
theorem dX5_readsQuiet_59 : decode cX5_readsQuiet 59 = .ok (.aload_n 0, 1) := by decide +kernel
theorem dX5_readsQuiet_60 : decode cX5_readsQuiet 60 = .ok (.getfield 35, 3) := by decide +kernel
theorem dX5_readsQuiet_63 : decode cX5_readsQuiet 63 = .ok (.bipush 35, 2) := by decide +kernel
theorem dX5_readsQuiet_65 : decode cX5_readsQuiet 65 = .ok (.aload_n 0, 1) := by decide +kernel
theorem dX5_readsQuiet_66 : decode cX5_readsQuiet 66 = .ok (.getfield 86, 3) := by decide +kernel
theorem dX5_readsQuiet_69 : decode cX5_readsQuiet 69 = .ok (.iastore, 1) := by decide +kernel
theorem dX5_readsQuiet_70 : decode cX5_readsQuiet 70 = .ok (.iconst 1, 1) := by decide +kernel
theorem dX5_readsQuiet_71 : decode cX5_readsQuiet 71 = .ok (.ireturn, 1) := by decide +kernel
theorem dX5_item_0 : decode cX5_item 0 = .ok (.aload_n 0, 1) := by decide +kernel
theorem dX5_item_1 : decode cX5_item 1 = .ok (.invokevirtual 82, 3) := by decide +kernel
theorem dX5_item_4 : decode cX5_item 4 = .ok (.lookupswitch 80 #[(98, 58), (103, 64), (110, 70), (113, 75), (114, 52)], 52) := by decide +kernel
theorem dX5_item_56 : decode cX5_item 56 = .ok (.aload_n 0, 1) := by decide +kernel
theorem dX5_item_57 : decode cX5_item 57 = .ok (.iconst 0, 1) := by decide +kernel
theorem dX5_item_58 : decode cX5_item 58 = .ok (.invokevirtual 100, 3) := by decide +kernel
theorem dX5_item_61 : decode cX5_item 61 = .ok (.ireturn, 1) := by decide +kernel
theorem dX5_item_62 : decode cX5_item 62 = .ok (.aload_n 0, 1) := by decide +kernel
theorem dX5_item_63 : decode cX5_item 63 = .ok (.iconst 1, 1) := by decide +kernel
theorem dX5_item_64 : decode cX5_item 64 = .ok (.invokevirtual 100, 3) := by decide +kernel
theorem dX5_item_67 : decode cX5_item 67 = .ok (.ireturn, 1) := by decide +kernel
theorem dX5_item_68 : decode cX5_item 68 = .ok (.aload_n 0, 1) := by decide +kernel
theorem dX5_item_69 : decode cX5_item 69 = .ok (.iconst 2, 1) := by decide +kernel
theorem dX5_item_70 : decode cX5_item 70 = .ok (.invokevirtual 100, 3) := by decide +kernel
theorem dX5_item_73 : decode cX5_item 73 = .ok (.ireturn, 1) := by decide +kernel
theorem dX5_item_74 : decode cX5_item 74 = .ok (.aload_n 0, 1) := by decide +kernel
theorem dX5_item_75 : decode cX5_item 75 = .ok (.invokevirtual 104, 3) := by decide +kernel
theorem dX5_item_78 : decode cX5_item 78 = .ok (.ireturn, 1) := by decide +kernel
theorem dX5_item_79 : decode cX5_item 79 = .ok (.aload_n 0, 1) := by decide +kernel
theorem dX5_item_80 : decode cX5_item 80 = .ok (.invokevirtual 108, 3) := by decide +kernel
theorem dX5_item_83 : decode cX5_item 83 = .ok (.ireturn, 1) := by decide +kernel
theorem dX5_item_84 : decode cX5_item 84 = .ok (.iconst 0, 1) := by decide +kernel
theorem dX5_item_85 : decode cX5_item 85 = .ok (.ireturn, 1) := by decide +kernel
theorem dX5_band_0 : decode cX5_band 0 = .ok (.aload_n 0, 1) := by decide +kernel
theorem dX5_band_1 : decode cX5_band 1 = .ok (.invokevirtual 53, 3) := by decide +kernel
theorem dX5_band_4 : decode cX5_band 4 = .ok (.aload_n 0, 1) := by decide +kernel
theorem dX5_band_5 : decode cX5_band 5 = .ok (.iconst 0, 1) := by decide +kernel
theorem dX5_band_6 : decode cX5_band 6 = .ok (.putfield 96, 3) := by decide +kernel
theorem dX5_band_9 : decode cX5_band 9 = .ok (.aload_n 0, 1) := by decide +kernel
theorem dX5_band_10 : decode cX5_band 10 = .ok (.iconst 0, 1) := by decide +kernel
theorem dX5_band_11 : decode cX5_band 11 = .ok (.putfield 79, 3) := by decide +kernel
theorem dX5_band_14 : decode cX5_band 14 = .ok (.iconst 0, 1) := by decide +kernel
theorem dX5_band_15 : decode cX5_band 15 = .ok (.istore_n 1, 1) := by decide +kernel
theorem dX5_band_16 : decode cX5_band 16 = .ok (.aload_n 0, 1) := by decide +kernel
theorem dX5_band_17 : decode cX5_band 17 = .ok (.invokevirtual 82, 3) := by decide +kernel
theorem dX5_band_20 : decode cX5_band 20 = .ok (.iconst (-1), 1) := by decide +kernel
theorem dX5_band_21 : decode cX5_band 21 = .ok (.if_icmp .eq 43, 3) := by decide +kernel
theorem dX5_band_24 : decode cX5_band 24 = .ok (.aload_n 0, 1) := by decide +kernel
theorem dX5_band_25 : decode cX5_band 25 = .ok (.invokevirtual 111, 3) := by decide +kernel
theorem dX5_band_28 : decode cX5_band 28 = .ok (.ifCond .eq 12, 3) := by decide +kernel
theorem dX5_band_31 : decode cX5_band 31 = .ok (.aload_n 0, 1) := by decide +kernel
theorem dX5_band_32 : decode cX5_band 32 = .ok (.invokevirtual 82, 3) := by decide +kernel
theorem dX5_band_35 : decode cX5_band 35 = .ok (.bipush 59, 2) := by decide +kernel
theorem dX5_band_37 : decode cX5_band 37 = .ok (.if_icmp .eq 11, 3) := by decide +kernel
theorem dX5_band_40 : decode cX5_band 40 = .ok (.bipush (-10), 2) := by decide +kernel
theorem dX5_band_42 : decode cX5_band 42 = .ok (.aload_n 0, 1) := by decide +kernel
theorem dX5_band_43 : decode cX5_band 43 = .ok (.getfield 79, 3) := by decide +kernel
theorem dX5_band_46 : decode cX5_band 46 = .ok (.isub, 1) := by decide +kernel
theorem dX5_band_47 : decode cX5_band 47 = .ok (.ireturn, 1) := by decide +kernel
theorem dX5_band_48 : decode cX5_band 48 = .ok (.aload_n 0, 1) := by decide +kernel
theorem dX5_band_49 : decode cX5_band 49 = .ok (.dup, 1) := by decide +kernel
theorem dX5_band_50 : decode cX5_band 50 = .ok (.getfield 79, 3) := by decide +kernel
theorem dX5_band_53 : decode cX5_band 53 = .ok (.iconst 1, 1) := by decide +kernel
theorem dX5_band_54 : decode cX5_band 54 = .ok (.iadd, 1) := by decide +kernel
theorem dX5_band_55 : decode cX5_band 55 = .ok (.putfield 79, 3) := by decide +kernel
theorem dX5_band_58 : decode cX5_band 58 = .ok (.iinc 1 1, 3) := by decide +kernel
theorem dX5_band_61 : decode cX5_band 61 = .ok (.goto (-45), 3) := by decide +kernel
theorem dX5_band_64 : decode cX5_band 64 = .ok (.aload_n 0, 1) := by decide +kernel
theorem dX5_band_65 : decode cX5_band 65 = .ok (.invokevirtual 56, 3) := by decide +kernel
theorem dX5_band_68 : decode cX5_band 68 = .ok (.aload_n 0, 1) := by decide +kernel
theorem dX5_band_69 : decode cX5_band 69 = .ok (.iconst 0, 1) := by decide +kernel
theorem dX5_band_70 : decode cX5_band 70 = .ok (.putfield 76, 3) := by decide +kernel
theorem dX5_band_73 : decode cX5_band 73 = .ok (.iload_n 1, 1) := by decide +kernel
theorem dX5_band_74 : decode cX5_band 74 = .ok (.ireturn, 1) := by decide +kernel
theorem dX5_isPlayer_0 : decode cX5_isPlayer 0 = .ok (.iload_n 1, 1) := by decide +kernel
theorem dX5_isPlayer_1 : decode cX5_isPlayer 1 = .ok (.iconst 0, 1) := by decide +kernel
theorem dX5_isPlayer_2 : decode cX5_isPlayer 2 = .ok (.aload_n 0, 1) := by decide +kernel
theorem dX5_isPlayer_3 : decode cX5_isPlayer 3 = .ok (.getfield 63, 3) := by decide +kernel
theorem dX5_isPlayer_6 : decode cX5_isPlayer 6 = .ok (.iconst 1, 1) := by decide +kernel
theorem dX5_isPlayer_7 : decode cX5_isPlayer 7 = .ok (.isub, 1) := by decide +kernel
theorem dX5_isPlayer_8 : decode cX5_isPlayer 8 = .ok (.invokestatic 72, 3) := by decide +kernel
theorem dX5_isPlayer_11 : decode cX5_isPlayer 11 = .ok (.ireturn, 1) := by decide +kernel
theorem dX5_isChord_0 : decode cX5_isChord 0 = .ok (.iload_n 1, 1) := by decide +kernel
theorem dX5_isChord_1 : decode cX5_isChord 1 = .ok (.iconst 0, 1) := by decide +kernel
theorem dX5_isChord_2 : decode cX5_isChord 2 = .ok (.aload_n 0, 1) := by decide +kernel
theorem dX5_isChord_3 : decode cX5_isChord 3 = .ok (.getfield 13, 3) := by decide +kernel
theorem dX5_isChord_6 : decode cX5_isChord 6 = .ok (.iconst 0, 1) := by decide +kernel
theorem dX5_isChord_7 : decode cX5_isChord 7 = .ok (.iaload, 1) := by decide +kernel
theorem dX5_isChord_8 : decode cX5_isChord 8 = .ok (.iconst 1, 1) := by decide +kernel
theorem dX5_isChord_9 : decode cX5_isChord 9 = .ok (.isub, 1) := by decide +kernel
theorem dX5_isChord_10 : decode cX5_isChord 10 = .ok (.invokestatic 72, 3) := by decide +kernel
theorem dX5_isChord_13 : decode cX5_isChord 13 = .ok (.ireturn, 1) := by decide +kernel
theorem dX5_kind_0 : decode cX5_kind 0 = .ok (.aload_n 0, 1) := by decide +kernel
theorem dX5_kind_1 : decode cX5_kind 1 = .ok (.getfield 7, 3) := by decide +kernel
theorem dX5_kind_4 : decode cX5_kind 4 = .ok (.iconst 5, 1) := by decide +kernel
theorem dX5_kind_5 : decode cX5_kind 5 = .ok (.iload_n 1, 1) := by decide +kernel
theorem dX5_kind_6 : decode cX5_kind 6 = .ok (.imul, 1) := by decide +kernel
theorem dX5_kind_7 : decode cX5_kind 7 = .ok (.iaload, 1) := by decide +kernel
theorem dX5_kind_8 : decode cX5_kind 8 = .ok (.ireturn, 1) := by decide +kernel
theorem dX5_isIn_0 : decode cX5_isIn 0 = .ok (.aload_n 0, 1) := by decide +kernel
theorem dX5_isIn_1 : decode cX5_isIn 1 = .ok (.getfield 13, 3) := by decide +kernel
theorem dX5_isIn_4 : decode cX5_isIn 4 = .ok (.bipush 33, 2) := by decide +kernel
theorem dX5_isIn_6 : decode cX5_isIn 6 = .ok (.iaload, 1) := by decide +kernel
theorem dX5_isIn_7 : decode cX5_isIn 7 = .ok (.iload_n 1, 1) := by decide +kernel
theorem dX5_isIn_8 : decode cX5_isIn 8 = .ok (.ishr, 1) := by decide +kernel
theorem dX5_isIn_9 : decode cX5_isIn 9 = .ok (.iconst 1, 1) := by decide +kernel
theorem dX5_isIn_10 : decode cX5_isIn 10 = .ok (.iand, 1) := by decide +kernel
theorem dX5_isIn_11 : decode cX5_isIn 11 = .ok (.iconst 1, 1) := by decide +kernel
theorem dX5_isIn_12 : decode cX5_isIn 12 = .ok (.if_icmp .ne 7, 3) := by decide +kernel
theorem dX5_isIn_15 : decode cX5_isIn 15 = .ok (.iconst 1, 1) := by decide +kernel
theorem dX5_isIn_16 : decode cX5_isIn 16 = .ok (.goto 4, 3) := by decide +kernel
theorem dX5_isIn_19 : decode cX5_isIn 19 = .ok (.iconst 0, 1) := by decide +kernel
theorem dX5_isIn_20 : decode cX5_isIn 20 = .ok (.ireturn, 1) := by decide +kernel
theorem dX5_notes_0 : decode cX5_notes 0 = .ok (.aload_n 0, 1) := by decide +kernel
theorem dX5_notes_1 : decode cX5_notes 1 = .ok (.getfield 13, 3) := by decide +kernel
theorem dX5_notes_4 : decode cX5_notes 4 = .ok (.iconst 1, 1) := by decide +kernel
theorem dX5_notes_5 : decode cX5_notes 5 = .ok (.iconst 4, 1) := by decide +kernel
theorem dX5_notes_6 : decode cX5_notes 6 = .ok (.iload_n 1, 1) := by decide +kernel
theorem dX5_notes_7 : decode cX5_notes 7 = .ok (.imul, 1) := by decide +kernel
theorem dX5_notes_8 : decode cX5_notes 8 = .ok (.iadd, 1) := by decide +kernel
theorem dX5_notes_9 : decode cX5_notes 9 = .ok (.iaload, 1) := by decide +kernel
theorem dX5_notes_10 : decode cX5_notes 10 = .ok (.ireturn, 1) := by decide +kernel
theorem dX5_note_0 : decode cX5_note 0 = .ok (.aload_n 0, 1) := by decide +kernel
theorem dX5_note_1 : decode cX5_note 1 = .ok (.getfield 13, 3) := by decide +kernel
theorem dX5_note_4 : decode cX5_note 4 = .ok (.iconst 1, 1) := by decide +kernel
theorem dX5_note_5 : decode cX5_note 5 = .ok (.iconst 4, 1) := by decide +kernel
theorem dX5_note_6 : decode cX5_note 6 = .ok (.iload_n 1, 1) := by decide +kernel
theorem dX5_note_7 : decode cX5_note 7 = .ok (.imul, 1) := by decide +kernel
theorem dX5_note_8 : decode cX5_note 8 = .ok (.iadd, 1) := by decide +kernel
theorem dX5_note_9 : decode cX5_note 9 = .ok (.iconst 1, 1) := by decide +kernel
theorem dX5_note_10 : decode cX5_note 10 = .ok (.iadd, 1) := by decide +kernel
theorem dX5_note_11 : decode cX5_note 11 = .ok (.iload_n 2, 1) := by decide +kernel
theorem dX5_note_12 : decode cX5_note 12 = .ok (.iadd, 1) := by decide +kernel
theorem dX5_note_13 : decode cX5_note 13 = .ok (.iaload, 1) := by decide +kernel
theorem dX5_note_14 : decode cX5_note 14 = .ok (.ireturn, 1) := by decide +kernel
theorem dX5_player_0 : decode cX5_player 0 = .ok (.aload_n 0, 1) := by decide +kernel
theorem dX5_player_1 : decode cX5_player 1 = .ok (.iload_n 1, 1) := by decide +kernel
theorem dX5_player_2 : decode cX5_player 2 = .ok (.invokevirtual 114, 3) := by decide +kernel
theorem dX5_player_5 : decode cX5_player 5 = .ok (.ifCond .eq 12, 3) := by decide +kernel
theorem dX5_player_8 : decode cX5_player 8 = .ok (.iload_n 2, 1) := by decide +kernel
theorem dX5_player_9 : decode cX5_player 9 = .ok (.iconst 0, 1) := by decide +kernel
theorem dX5_player_10 : decode cX5_player 10 = .ok (.iconst 4, 1) := by decide +kernel
theorem dX5_player_11 : decode cX5_player 11 = .ok (.invokestatic 72, 3) := by decide +kernel
theorem dX5_player_14 : decode cX5_player 14 = .ok (.ifCond .ne 5, 3) := by decide +kernel
theorem dX5_player_17 : decode cX5_player 17 = .ok (.iconst (-1), 1) := by decide +kernel
theorem dX5_player_18 : decode cX5_player 18 = .ok (.ireturn, 1) := by decide +kernel
theorem dX5_player_19 : decode cX5_player 19 = .ok (.iload_n 2, 1) := by decide +kernel
theorem dX5_player_20 : decode cX5_player 20 = .ok (.iconst 4, 1) := by decide +kernel
theorem dX5_player_21 : decode cX5_player 21 = .ok (.if_icmp .ge 16, 3) := by decide +kernel
theorem dX5_player_24 : decode cX5_player 24 = .ok (.aload_n 0, 1) := by decide +kernel
theorem dX5_player_25 : decode cX5_player 25 = .ok (.getfield 7, 3) := by decide +kernel
theorem dX5_player_28 : decode cX5_player 28 = .ok (.iconst 5, 1) := by decide +kernel
theorem dX5_player_29 : decode cX5_player 29 = .ok (.iload_n 1, 1) := by decide +kernel
theorem dX5_player_30 : decode cX5_player 30 = .ok (.imul, 1) := by decide +kernel
theorem dX5_player_31 : decode cX5_player 31 = .ok (.iload_n 2, 1) := by decide +kernel
theorem dX5_player_32 : decode cX5_player 32 = .ok (.iadd, 1) := by decide +kernel
theorem dX5_player_33 : decode cX5_player 33 = .ok (.iaload, 1) := by decide +kernel
theorem dX5_player_34 : decode cX5_player 34 = .ok (.goto 16, 3) := by decide +kernel
theorem dX5_player_37 : decode cX5_player 37 = .ok (.aload_n 0, 1) := by decide +kernel
theorem dX5_player_38 : decode cX5_player 38 = .ok (.iload_n 1, 1) := by decide +kernel
theorem dX5_player_39 : decode cX5_player 39 = .ok (.invokevirtual 117, 3) := by decide +kernel
theorem dX5_player_42 : decode cX5_player 42 = .ok (.ifCond .eq 7, 3) := by decide +kernel
theorem dX5_player_45 : decode cX5_player 45 = .ok (.iconst 1, 1) := by decide +kernel
theorem dX5_player_46 : decode cX5_player 46 = .ok (.goto 4, 3) := by decide +kernel
theorem dX5_player_49 : decode cX5_player 49 = .ok (.iconst 0, 1) := by decide +kernel
theorem dX5_player_50 : decode cX5_player 50 = .ok (.ireturn, 1) := by decide +kernel
theorem dX5_span_0 : decode cX5_span 0 = .ok (.aload_n 0, 1) := by decide +kernel
theorem dX5_span_1 : decode cX5_span 1 = .ok (.iload_n 1, 1) := by decide +kernel
theorem dX5_span_2 : decode cX5_span 2 = .ok (.invokevirtual 114, 3) := by decide +kernel
theorem dX5_span_5 : decode cX5_span 5 = .ok (.ifCond .eq 25, 3) := by decide +kernel
theorem dX5_span_8 : decode cX5_span 8 = .ok (.aload_n 0, 1) := by decide +kernel
theorem dX5_span_9 : decode cX5_span 9 = .ok (.iload_n 1, 1) := by decide +kernel
theorem dX5_span_10 : decode cX5_span 10 = .ok (.invokevirtual 120, 3) := by decide +kernel
theorem dX5_span_13 : decode cX5_span 13 = .ok (.iconst 1, 1) := by decide +kernel
theorem dX5_span_14 : decode cX5_span 14 = .ok (.if_icmp .ne 16, 3) := by decide +kernel
theorem dX5_span_17 : decode cX5_span 17 = .ok (.aload_n 0, 1) := by decide +kernel
theorem dX5_span_18 : decode cX5_span 18 = .ok (.getfield 7, 3) := by decide +kernel
theorem dX5_span_21 : decode cX5_span 21 = .ok (.iconst 5, 1) := by decide +kernel
theorem dX5_span_22 : decode cX5_span 22 = .ok (.iload_n 1, 1) := by decide +kernel
theorem dX5_span_23 : decode cX5_span 23 = .ok (.imul, 1) := by decide +kernel
theorem dX5_span_24 : decode cX5_span 24 = .ok (.iconst 4, 1) := by decide +kernel
theorem dX5_span_25 : decode cX5_span 25 = .ok (.iadd, 1) := by decide +kernel
theorem dX5_span_26 : decode cX5_span 26 = .ok (.iaload, 1) := by decide +kernel
theorem dX5_span_27 : decode cX5_span 27 = .ok (.goto 4, 3) := by decide +kernel
theorem dX5_span_30 : decode cX5_span 30 = .ok (.iconst (-1), 1) := by decide +kernel
theorem dX5_span_31 : decode cX5_span 31 = .ok (.ireturn, 1) := by decide +kernel
theorem dX5_chord_0 : decode cX5_chord 0 = .ok (.aload_n 0, 1) := by decide +kernel
theorem dX5_chord_1 : decode cX5_chord 1 = .ok (.iload_n 1, 1) := by decide +kernel
theorem dX5_chord_2 : decode cX5_chord 2 = .ok (.invokevirtual 124, 3) := by decide +kernel
theorem dX5_chord_5 : decode cX5_chord 5 = .ok (.ifCond .eq 8, 3) := by decide +kernel
theorem dX5_chord_8 : decode cX5_chord 8 = .ok (.iload_n 2, 1) := by decide +kernel
theorem dX5_chord_9 : decode cX5_chord 9 = .ok (.iconst (-1), 1) := by decide +kernel
theorem dX5_chord_10 : decode cX5_chord 10 = .ok (.if_icmp .ge 5, 3) := by decide +kernel
theorem dX5_chord_13 : decode cX5_chord 13 = .ok (.iconst (-1), 1) := by decide +kernel
theorem dX5_chord_14 : decode cX5_chord 14 = .ok (.ireturn, 1) := by decide +kernel
theorem dX5_chord_15 : decode cX5_chord 15 = .ok (.iload_n 2, 1) := by decide +kernel
theorem dX5_chord_16 : decode cX5_chord 16 = .ok (.iconst (-1), 1) := by decide +kernel
theorem dX5_chord_17 : decode cX5_chord 17 = .ok (.if_icmp .ne 11, 3) := by decide +kernel
theorem dX5_chord_20 : decode cX5_chord 20 = .ok (.aload_n 0, 1) := by decide +kernel
theorem dX5_chord_21 : decode cX5_chord 21 = .ok (.iload_n 1, 1) := by decide +kernel
theorem dX5_chord_22 : decode cX5_chord 22 = .ok (.invokevirtual 127, 3) := by decide +kernel
theorem dX5_chord_25 : decode cX5_chord 25 = .ok (.goto 23, 3) := by decide +kernel
theorem dX5_chord_28 : decode cX5_chord 28 = .ok (.iload_n 2, 1) := by decide +kernel
theorem dX5_chord_29 : decode cX5_chord 29 = .ok (.aload_n 0, 1) := by decide +kernel
theorem dX5_chord_30 : decode cX5_chord 30 = .ok (.iload_n 1, 1) := by decide +kernel
theorem dX5_chord_31 : decode cX5_chord 31 = .ok (.invokevirtual 127, 3) := by decide +kernel
theorem dX5_chord_34 : decode cX5_chord 34 = .ok (.if_icmp .ge 12, 3) := by decide +kernel
theorem dX5_chord_37 : decode cX5_chord 37 = .ok (.aload_n 0, 1) := by decide +kernel
theorem dX5_chord_38 : decode cX5_chord 38 = .ok (.iload_n 1, 1) := by decide +kernel
theorem dX5_chord_39 : decode cX5_chord 39 = .ok (.iload_n 2, 1) := by decide +kernel
theorem dX5_chord_40 : decode cX5_chord 40 = .ok (.invokevirtual 130, 3) := by decide +kernel
theorem dX5_chord_43 : decode cX5_chord 43 = .ok (.goto 5, 3) := by decide +kernel
theorem dX5_chord_46 : decode cX5_chord 46 = .ok (.bipush (-9), 2) := by decide +kernel
theorem dX5_chord_48 : decode cX5_chord 48 = .ok (.ireturn, 1) := by decide +kernel
theorem dX5_remembers_0 : decode cX5_remembers 0 = .ok (.aload_n 0, 1) := by decide +kernel
theorem dX5_remembers_1 : decode cX5_remembers 1 = .ok (.getfield 66, 3) := by decide +kernel
theorem dX5_remembers_4 : decode cX5_remembers 4 = .ok (.bipush 10, 2) := by decide +kernel
theorem dX5_remembers_6 : decode cX5_remembers 6 = .ok (.if_icmp .ne 43, 3) := by decide +kernel
theorem dX5_remembers_9 : decode cX5_remembers 9 = .ok (.iconst 0, 1) := by decide +kernel
theorem dX5_remembers_10 : decode cX5_remembers 10 = .ok (.istore_n 1, 1) := by decide +kernel
theorem dX5_remembers_11 : decode cX5_remembers 11 = .ok (.iload_n 1, 1) := by decide +kernel
theorem dX5_remembers_12 : decode cX5_remembers 12 = .ok (.sipush 324, 3) := by decide +kernel
theorem dX5_remembers_15 : decode cX5_remembers 15 = .ok (.if_icmp .ge 24, 3) := by decide +kernel
theorem dX5_remembers_18 : decode cX5_remembers 18 = .ok (.aload_n 0, 1) := by decide +kernel
theorem dX5_remembers_19 : decode cX5_remembers 19 = .ok (.getfield 16, 3) := by decide +kernel
theorem dX5_remembers_22 : decode cX5_remembers 22 = .ok (.iload_n 1, 1) := by decide +kernel
theorem dX5_remembers_23 : decode cX5_remembers 23 = .ok (.aload_n 0, 1) := by decide +kernel
theorem dX5_remembers_24 : decode cX5_remembers 24 = .ok (.getfield 16, 3) := by decide +kernel
theorem dX5_remembers_27 : decode cX5_remembers 27 = .ok (.iload_n 1, 1) := by decide +kernel
theorem dX5_remembers_28 : decode cX5_remembers 28 = .ok (.bipush 36, 2) := by decide +kernel
theorem dX5_remembers_30 : decode cX5_remembers 30 = .ok (.iadd, 1) := by decide +kernel
theorem dX5_remembers_31 : decode cX5_remembers 31 = .ok (.iaload, 1) := by decide +kernel
theorem dX5_remembers_32 : decode cX5_remembers 32 = .ok (.iastore, 1) := by decide +kernel
theorem dX5_remembers_33 : decode cX5_remembers 33 = .ok (.iinc 1 1, 3) := by decide +kernel
theorem dX5_remembers_36 : decode cX5_remembers 36 = .ok (.goto (-25), 3) := by decide +kernel
theorem dX5_remembers_39 : decode cX5_remembers 39 = .ok (.aload_n 0, 1) := by decide +kernel
theorem dX5_remembers_40 : decode cX5_remembers 40 = .ok (.dup, 1) := by decide +kernel
theorem dX5_remembers_41 : decode cX5_remembers 41 = .ok (.getfield 66, 3) := by decide +kernel
theorem dX5_remembers_44 : decode cX5_remembers 44 = .ok (.iconst 1, 1) := by decide +kernel
theorem dX5_remembers_45 : decode cX5_remembers 45 = .ok (.isub, 1) := by decide +kernel
theorem dX5_remembers_46 : decode cX5_remembers 46 = .ok (.putfield 66, 3) := by decide +kernel
theorem dX5_remembers_49 : decode cX5_remembers 49 = .ok (.iconst 0, 1) := by decide +kernel
theorem dX5_remembers_50 : decode cX5_remembers 50 = .ok (.istore_n 1, 1) := by decide +kernel
theorem dX5_remembers_51 : decode cX5_remembers 51 = .ok (.iload_n 1, 1) := by decide +kernel
theorem dX5_remembers_52 : decode cX5_remembers 52 = .ok (.bipush 36, 2) := by decide +kernel
theorem dX5_remembers_54 : decode cX5_remembers 54 = .ok (.if_icmp .ge 29, 3) := by decide +kernel
theorem dX5_remembers_57 : decode cX5_remembers 57 = .ok (.aload_n 0, 1) := by decide +kernel
theorem dX5_remembers_58 : decode cX5_remembers 58 = .ok (.getfield 16, 3) := by decide +kernel
theorem dX5_remembers_61 : decode cX5_remembers 61 = .ok (.bipush 36, 2) := by decide +kernel
theorem dX5_remembers_63 : decode cX5_remembers 63 = .ok (.aload_n 0, 1) := by decide +kernel
theorem dX5_remembers_64 : decode cX5_remembers 64 = .ok (.getfield 66, 3) := by decide +kernel
theorem dX5_remembers_67 : decode cX5_remembers 67 = .ok (.imul, 1) := by decide +kernel
theorem dX5_remembers_68 : decode cX5_remembers 68 = .ok (.iload_n 1, 1) := by decide +kernel
theorem dX5_remembers_69 : decode cX5_remembers 69 = .ok (.iadd, 1) := by decide +kernel
theorem dX5_remembers_70 : decode cX5_remembers 70 = .ok (.aload_n 0, 1) := by decide +kernel
theorem dX5_remembers_71 : decode cX5_remembers 71 = .ok (.getfield 13, 3) := by decide +kernel
theorem dX5_remembers_74 : decode cX5_remembers 74 = .ok (.iload_n 1, 1) := by decide +kernel
theorem dX5_remembers_75 : decode cX5_remembers 75 = .ok (.iaload, 1) := by decide +kernel
theorem dX5_remembers_76 : decode cX5_remembers 76 = .ok (.iastore, 1) := by decide +kernel
theorem dX5_remembers_77 : decode cX5_remembers 77 = .ok (.iinc 1 1, 3) := by decide +kernel
theorem dX5_remembers_80 : decode cX5_remembers 80 = .ok (.goto (-29), 3) := by decide +kernel
theorem dX5_remembers_83 : decode cX5_remembers 83 = .ok (.aload_n 0, 1) := by decide +kernel
theorem dX5_remembers_84 : decode cX5_remembers 84 = .ok (.dup, 1) := by decide +kernel
theorem dX5_remembers_85 : decode cX5_remembers 85 = .ok (.getfield 66, 3) := by decide +kernel
theorem dX5_remembers_88 : decode cX5_remembers 88 = .ok (.iconst 1, 1) := by decide +kernel
theorem dX5_remembers_89 : decode cX5_remembers 89 = .ok (.iadd, 1) := by decide +kernel
theorem dX5_remembers_90 : decode cX5_remembers 90 = .ok (.putfield 66, 3) := by decide +kernel
theorem dX5_remembers_93 : decode cX5_remembers 93 = .ok (.return_, 1) := by decide +kernel
theorem dX5_areNotes_0 : decode cX5_areNotes 0 = .ok (.iload_n 1, 1) := by decide +kernel
theorem dX5_areNotes_1 : decode cX5_areNotes 1 = .ok (.iconst (-1), 1) := by decide +kernel
theorem dX5_areNotes_2 : decode cX5_areNotes 2 = .ok (.if_icmp .eq 15, 3) := by decide +kernel
theorem dX5_areNotes_5 : decode cX5_areNotes 5 = .ok (.iload_n 1, 1) := by decide +kernel
theorem dX5_areNotes_6 : decode cX5_areNotes 6 = .ok (.iload_n 0, 1) := by decide +kernel
theorem dX5_areNotes_7 : decode cX5_areNotes 7 = .ok (.iconst 1, 1) := by decide +kernel
theorem dX5_areNotes_8 : decode cX5_areNotes 8 = .ok (.iadd, 1) := by decide +kernel
theorem dX5_areNotes_9 : decode cX5_areNotes 9 = .ok (.bipush 60, 2) := by decide +kernel
theorem dX5_areNotes_11 : decode cX5_areNotes 11 = .ok (.invokestatic 72, 3) := by decide +kernel
theorem dX5_areNotes_14 : decode cX5_areNotes 14 = .ok (.ifCond .eq 7, 3) := by decide +kernel
theorem dX5_areNotes_17 : decode cX5_areNotes 17 = .ok (.iconst 1, 1) := by decide +kernel
theorem dX5_areNotes_18 : decode cX5_areNotes 18 = .ok (.goto 4, 3) := by decide +kernel
theorem dX5_areNotes_21 : decode cX5_areNotes 21 = .ok (.iconst 0, 1) := by decide +kernel
theorem dX5_areNotes_22 : decode cX5_areNotes 22 = .ok (.istore_n 3, 1) := by decide +kernel
theorem dX5_areNotes_23 : decode cX5_areNotes 23 = .ok (.iload_n 2, 1) := by decide +kernel
theorem dX5_areNotes_24 : decode cX5_areNotes 24 = .ok (.iconst (-1), 1) := by decide +kernel
theorem dX5_areNotes_25 : decode cX5_areNotes 25 = .ok (.if_icmp .eq 20, 3) := by decide +kernel
theorem dX5_areNotes_28 : decode cX5_areNotes 28 = .ok (.iload_n 1, 1) := by decide +kernel
theorem dX5_areNotes_29 : decode cX5_areNotes 29 = .ok (.iconst (-1), 1) := by decide +kernel
theorem dX5_areNotes_30 : decode cX5_areNotes 30 = .ok (.if_icmp .eq 19, 3) := by decide +kernel
theorem dX5_areNotes_33 : decode cX5_areNotes 33 = .ok (.iload_n 2, 1) := by decide +kernel
theorem dX5_areNotes_34 : decode cX5_areNotes 34 = .ok (.iload_n 1, 1) := by decide +kernel
theorem dX5_areNotes_35 : decode cX5_areNotes 35 = .ok (.iconst 1, 1) := by decide +kernel
theorem dX5_areNotes_36 : decode cX5_areNotes 36 = .ok (.iadd, 1) := by decide +kernel
theorem dX5_areNotes_37 : decode cX5_areNotes 37 = .ok (.bipush 60, 2) := by decide +kernel
theorem dX5_areNotes_39 : decode cX5_areNotes 39 = .ok (.invokestatic 72, 3) := by decide +kernel
theorem dX5_areNotes_42 : decode cX5_areNotes 42 = .ok (.ifCond .eq 7, 3) := by decide +kernel
theorem dX5_areNotes_45 : decode cX5_areNotes 45 = .ok (.iconst 1, 1) := by decide +kernel
theorem dX5_areNotes_46 : decode cX5_areNotes 46 = .ok (.goto 4, 3) := by decide +kernel
theorem dX5_areNotes_49 : decode cX5_areNotes 49 = .ok (.iconst 0, 1) := by decide +kernel
theorem dX5_areNotes_50 : decode cX5_areNotes 50 = .ok (.istore 4, 2) := by decide +kernel
theorem dX5_areNotes_52 : decode cX5_areNotes 52 = .ok (.iload_n 0, 1) := by decide +kernel
theorem dX5_areNotes_53 : decode cX5_areNotes 53 = .ok (.iconst 0, 1) := by decide +kernel
theorem dX5_areNotes_54 : decode cX5_areNotes 54 = .ok (.bipush 60, 2) := by decide +kernel
theorem dX5_areNotes_56 : decode cX5_areNotes 56 = .ok (.invokestatic 72, 3) := by decide +kernel
theorem dX5_areNotes_59 : decode cX5_areNotes 59 = .ok (.ifCond .eq 16, 3) := by decide +kernel
theorem dX5_areNotes_62 : decode cX5_areNotes 62 = .ok (.iload_n 3, 1) := by decide +kernel
theorem dX5_areNotes_63 : decode cX5_areNotes 63 = .ok (.ifCond .eq 12, 3) := by decide +kernel
theorem dX5_areNotes_66 : decode cX5_areNotes 66 = .ok (.iload 4, 2) := by decide +kernel
theorem dX5_areNotes_68 : decode cX5_areNotes 68 = .ok (.ifCond .eq 7, 3) := by decide +kernel
theorem dX5_areNotes_71 : decode cX5_areNotes 71 = .ok (.iconst 1, 1) := by decide +kernel
theorem dX5_areNotes_72 : decode cX5_areNotes 72 = .ok (.goto 4, 3) := by decide +kernel
theorem dX5_areNotes_75 : decode cX5_areNotes 75 = .ok (.iconst 0, 1) := by decide +kernel
theorem dX5_areNotes_76 : decode cX5_areNotes 76 = .ok (.ireturn, 1) := by decide +kernel
theorem dX5_puts_0 : decode cX5_puts 0 = .ok (.iload_n 1, 1) := by decide +kernel
theorem dX5_puts_1 : decode cX5_puts 1 = .ok (.iconst 0, 1) := by decide +kernel
theorem dX5_puts_2 : decode cX5_puts 2 = .ok (.aload_n 0, 1) := by decide +kernel
theorem dX5_puts_3 : decode cX5_puts 3 = .ok (.getfield 13, 3) := by decide +kernel
theorem dX5_puts_6 : decode cX5_puts 6 = .ok (.iconst 0, 1) := by decide +kernel
theorem dX5_puts_7 : decode cX5_puts 7 = .ok (.iaload, 1) := by decide +kernel
theorem dX5_puts_8 : decode cX5_puts 8 = .ok (.invokestatic 72, 3) := by decide +kernel
theorem dX5_puts_11 : decode cX5_puts 11 = .ok (.ifCond .eq 13, 3) := by decide +kernel
theorem dX5_puts_14 : decode cX5_puts 14 = .ok (.iload_n 2, 1) := by decide +kernel
theorem dX5_puts_15 : decode cX5_puts 15 = .ok (.iload_n 3, 1) := by decide +kernel
theorem dX5_puts_16 : decode cX5_puts 16 = .ok (.iload 4, 2) := by decide +kernel
theorem dX5_puts_18 : decode cX5_puts 18 = .ok (.invokestatic 134, 3) := by decide +kernel
theorem dX5_puts_21 : decode cX5_puts 21 = .ok (.ifCond .ne 5, 3) := by decide +kernel
theorem dX5_puts_24 : decode cX5_puts 24 = .ok (.iconst (-1), 1) := by decide +kernel
theorem dX5_puts_25 : decode cX5_puts 25 = .ok (.ireturn, 1) := by decide +kernel
theorem dX5_puts_26 : decode cX5_puts 26 = .ok (.iload_n 3, 1) := by decide +kernel
theorem dX5_puts_27 : decode cX5_puts 27 = .ok (.iconst (-1), 1) := by decide +kernel
theorem dX5_puts_28 : decode cX5_puts 28 = .ok (.if_icmp .ne 7, 3) := by decide +kernel
theorem dX5_puts_31 : decode cX5_puts 31 = .ok (.iconst 1, 1) := by decide +kernel
theorem dX5_puts_32 : decode cX5_puts 32 = .ok (.goto 14, 3) := by decide +kernel
theorem dX5_puts_35 : decode cX5_puts 35 = .ok (.iload 4, 2) := by decide +kernel
theorem dX5_puts_37 : decode cX5_puts 37 = .ok (.iconst (-1), 1) := by decide +kernel
theorem dX5_puts_38 : decode cX5_puts 38 = .ok (.if_icmp .ne 7, 3) := by decide +kernel
theorem dX5_puts_41 : decode cX5_puts 41 = .ok (.iconst 2, 1) := by decide +kernel
theorem dX5_puts_42 : decode cX5_puts 42 = .ok (.goto 4, 3) := by decide +kernel
theorem dX5_puts_45 : decode cX5_puts 45 = .ok (.iconst 3, 1) := by decide +kernel
theorem dX5_puts_46 : decode cX5_puts 46 = .ok (.istore 5, 2) := by decide +kernel
theorem dX5_puts_48 : decode cX5_puts 48 = .ok (.iload_n 1, 1) := by decide +kernel
theorem dX5_puts_49 : decode cX5_puts 49 = .ok (.aload_n 0, 1) := by decide +kernel
theorem dX5_puts_50 : decode cX5_puts 50 = .ok (.getfield 13, 3) := by decide +kernel
theorem dX5_puts_53 : decode cX5_puts 53 = .ok (.iconst 0, 1) := by decide +kernel
theorem dX5_puts_54 : decode cX5_puts 54 = .ok (.iaload, 1) := by decide +kernel
theorem dX5_puts_55 : decode cX5_puts 55 = .ok (.if_icmp .ge 60, 3) := by decide +kernel
theorem dX5_puts_58 : decode cX5_puts 58 = .ok (.aload_n 0, 1) := by decide +kernel
theorem dX5_puts_59 : decode cX5_puts 59 = .ok (.iload_n 1, 1) := by decide +kernel
theorem dX5_puts_60 : decode cX5_puts 60 = .ok (.invokevirtual 127, 3) := by decide +kernel
theorem dX5_puts_63 : decode cX5_puts 63 = .ok (.iload 5, 2) := by decide +kernel
theorem dX5_puts_65 : decode cX5_puts 65 = .ok (.if_icmp .ne 50, 3) := by decide +kernel
theorem dX5_puts_68 : decode cX5_puts 68 = .ok (.aload_n 0, 1) := by decide +kernel
theorem dX5_puts_69 : decode cX5_puts 69 = .ok (.iload_n 1, 1) := by decide +kernel
theorem dX5_puts_70 : decode cX5_puts 70 = .ok (.iconst 0, 1) := by decide +kernel
theorem dX5_puts_71 : decode cX5_puts 71 = .ok (.invokevirtual 130, 3) := by decide +kernel
theorem dX5_puts_74 : decode cX5_puts 74 = .ok (.iload_n 2, 1) := by decide +kernel
theorem dX5_puts_75 : decode cX5_puts 75 = .ok (.if_icmp .ne 40, 3) := by decide +kernel
theorem dX5_puts_78 : decode cX5_puts 78 = .ok (.iload 5, 2) := by decide +kernel
theorem dX5_puts_80 : decode cX5_puts 80 = .ok (.iconst 2, 1) := by decide +kernel
theorem dX5_puts_81 : decode cX5_puts 81 = .ok (.if_icmp .lt 13, 3) := by decide +kernel
theorem dX5_puts_84 : decode cX5_puts 84 = .ok (.aload_n 0, 1) := by decide +kernel
theorem dX5_puts_85 : decode cX5_puts 85 = .ok (.iload_n 1, 1) := by decide +kernel
theorem dX5_puts_86 : decode cX5_puts 86 = .ok (.iconst 1, 1) := by decide +kernel
theorem dX5_puts_87 : decode cX5_puts 87 = .ok (.invokevirtual 130, 3) := by decide +kernel
theorem dX5_puts_90 : decode cX5_puts 90 = .ok (.iload_n 3, 1) := by decide +kernel
theorem dX5_puts_91 : decode cX5_puts 91 = .ok (.if_icmp .ne 24, 3) := by decide +kernel
theorem dX5_puts_94 : decode cX5_puts 94 = .ok (.iload 5, 2) := by decide +kernel
theorem dX5_puts_96 : decode cX5_puts 96 = .ok (.iconst 3, 1) := by decide +kernel
theorem dX5_puts_97 : decode cX5_puts 97 = .ok (.if_icmp .lt 14, 3) := by decide +kernel
theorem dX5_puts_100 : decode cX5_puts 100 = .ok (.aload_n 0, 1) := by decide +kernel
theorem dX5_puts_101 : decode cX5_puts 101 = .ok (.iload_n 1, 1) := by decide +kernel
theorem dX5_puts_102 : decode cX5_puts 102 = .ok (.iconst 2, 1) := by decide +kernel
theorem dX5_puts_103 : decode cX5_puts 103 = .ok (.invokevirtual 130, 3) := by decide +kernel
theorem dX5_puts_106 : decode cX5_puts 106 = .ok (.iload 4, 2) := by decide +kernel
theorem dX5_puts_108 : decode cX5_puts 108 = .ok (.if_icmp .ne 7, 3) := by decide +kernel
theorem dX5_puts_111 : decode cX5_puts 111 = .ok (.iconst 1, 1) := by decide +kernel
theorem dX5_puts_112 : decode cX5_puts 112 = .ok (.goto 4, 3) := by decide +kernel
theorem dX5_puts_115 : decode cX5_puts 115 = .ok (.iconst 0, 1) := by decide +kernel
theorem dX5_puts_116 : decode cX5_puts 116 = .ok (.istore 6, 2) := by decide +kernel
theorem dX5_puts_118 : decode cX5_puts 118 = .ok (.iload 6, 2) := by decide +kernel
theorem dX5_puts_120 : decode cX5_puts 120 = .ok (.ifCond .eq 6, 3) := by decide +kernel
theorem dX5_puts_123 : decode cX5_puts 123 = .ok (.bipush (-2), 2) := by decide +kernel
theorem dX5_puts_125 : decode cX5_puts 125 = .ok (.ireturn, 1) := by decide +kernel
theorem dX5_puts_126 : decode cX5_puts 126 = .ok (.iload_n 1, 1) := by decide +kernel
theorem dX5_puts_127 : decode cX5_puts 127 = .ok (.bipush 8, 2) := by decide +kernel
theorem dX5_puts_129 : decode cX5_puts 129 = .ok (.if_icmp .ne 6, 3) := by decide +kernel
theorem dX5_puts_132 : decode cX5_puts 132 = .ok (.bipush (-3), 2) := by decide +kernel
theorem dX5_puts_134 : decode cX5_puts 134 = .ok (.ireturn, 1) := by decide +kernel
theorem dX5_puts_135 : decode cX5_puts 135 = .ok (.aload_n 0, 1) := by decide +kernel
theorem dX5_puts_136 : decode cX5_puts 136 = .ok (.invokevirtual 137, 3) := by decide +kernel
theorem dX5_puts_139 : decode cX5_puts 139 = .ok (.iconst 1, 1) := by decide +kernel
theorem dX5_puts_140 : decode cX5_puts 140 = .ok (.iconst 4, 1) := by decide +kernel
theorem dX5_puts_141 : decode cX5_puts 141 = .ok (.iload_n 1, 1) := by decide +kernel
theorem dX5_puts_142 : decode cX5_puts 142 = .ok (.imul, 1) := by decide +kernel
theorem dX5_puts_143 : decode cX5_puts 143 = .ok (.iadd, 1) := by decide +kernel
theorem dX5_puts_144 : decode cX5_puts 144 = .ok (.istore 7, 2) := by decide +kernel
theorem dX5_puts_146 : decode cX5_puts 146 = .ok (.aload_n 0, 1) := by decide +kernel
theorem dX5_puts_147 : decode cX5_puts 147 = .ok (.getfield 13, 3) := by decide +kernel
theorem dX5_puts_150 : decode cX5_puts 150 = .ok (.iload 7, 2) := by decide +kernel
theorem dX5_puts_152 : decode cX5_puts 152 = .ok (.iload 5, 2) := by decide +kernel
theorem dX5_puts_154 : decode cX5_puts 154 = .ok (.iastore, 1) := by decide +kernel
theorem dX5_puts_155 : decode cX5_puts 155 = .ok (.aload_n 0, 1) := by decide +kernel
theorem dX5_puts_156 : decode cX5_puts 156 = .ok (.getfield 13, 3) := by decide +kernel
theorem dX5_puts_159 : decode cX5_puts 159 = .ok (.iload 7, 2) := by decide +kernel
theorem dX5_puts_161 : decode cX5_puts 161 = .ok (.iconst 1, 1) := by decide +kernel
theorem dX5_puts_162 : decode cX5_puts 162 = .ok (.iadd, 1) := by decide +kernel
theorem dX5_puts_163 : decode cX5_puts 163 = .ok (.iload_n 2, 1) := by decide +kernel
theorem dX5_puts_164 : decode cX5_puts 164 = .ok (.iastore, 1) := by decide +kernel
theorem dX5_puts_165 : decode cX5_puts 165 = .ok (.aload_n 0, 1) := by decide +kernel
theorem dX5_puts_166 : decode cX5_puts 166 = .ok (.getfield 13, 3) := by decide +kernel
theorem dX5_puts_169 : decode cX5_puts 169 = .ok (.iload 7, 2) := by decide +kernel
theorem dX5_puts_171 : decode cX5_puts 171 = .ok (.iconst 2, 1) := by decide +kernel
theorem dX5_puts_172 : decode cX5_puts 172 = .ok (.iadd, 1) := by decide +kernel
theorem dX5_puts_173 : decode cX5_puts 173 = .ok (.iload_n 3, 1) := by decide +kernel
theorem dX5_puts_174 : decode cX5_puts 174 = .ok (.iastore, 1) := by decide +kernel
theorem dX5_puts_175 : decode cX5_puts 175 = .ok (.aload_n 0, 1) := by decide +kernel
theorem dX5_puts_176 : decode cX5_puts 176 = .ok (.getfield 13, 3) := by decide +kernel
theorem dX5_puts_179 : decode cX5_puts 179 = .ok (.iload 7, 2) := by decide +kernel
theorem dX5_puts_181 : decode cX5_puts 181 = .ok (.iconst 3, 1) := by decide +kernel
theorem dX5_puts_182 : decode cX5_puts 182 = .ok (.iadd, 1) := by decide +kernel
theorem dX5_puts_183 : decode cX5_puts 183 = .ok (.iload 4, 2) := by decide +kernel
theorem dX5_puts_185 : decode cX5_puts 185 = .ok (.iastore, 1) := by decide +kernel
theorem dX5_puts_186 : decode cX5_puts 186 = .ok (.aload_n 0, 1) := by decide +kernel
theorem dX5_puts_187 : decode cX5_puts 187 = .ok (.getfield 13, 3) := by decide +kernel
theorem dX5_puts_190 : decode cX5_puts 190 = .ok (.iconst 0, 1) := by decide +kernel
theorem dX5_puts_191 : decode cX5_puts 191 = .ok (.dup2, 1) := by decide +kernel
theorem dX5_puts_192 : decode cX5_puts 192 = .ok (.iaload, 1) := by decide +kernel
theorem dX5_puts_193 : decode cX5_puts 193 = .ok (.iload_n 1, 1) := by decide +kernel
theorem dX5_puts_194 : decode cX5_puts 194 = .ok (.aload_n 0, 1) := by decide +kernel
theorem dX5_puts_195 : decode cX5_puts 195 = .ok (.getfield 13, 3) := by decide +kernel
theorem dX5_puts_198 : decode cX5_puts 198 = .ok (.iconst 0, 1) := by decide +kernel
theorem dX5_puts_199 : decode cX5_puts 199 = .ok (.iaload, 1) := by decide +kernel
theorem dX5_puts_200 : decode cX5_puts 200 = .ok (.if_icmp .ne 7, 3) := by decide +kernel
theorem dX5_puts_203 : decode cX5_puts 203 = .ok (.iconst 1, 1) := by decide +kernel
theorem dX5_puts_204 : decode cX5_puts 204 = .ok (.goto 4, 3) := by decide +kernel
theorem dX5_puts_207 : decode cX5_puts 207 = .ok (.iconst 0, 1) := by decide +kernel
theorem dX5_puts_208 : decode cX5_puts 208 = .ok (.iadd, 1) := by decide +kernel
theorem dX5_puts_209 : decode cX5_puts 209 = .ok (.iastore, 1) := by decide +kernel
theorem dX5_puts_210 : decode cX5_puts 210 = .ok (.aload_n 0, 1) := by decide +kernel
theorem dX5_puts_211 : decode cX5_puts 211 = .ok (.getfield 13, 3) := by decide +kernel
theorem dX5_puts_214 : decode cX5_puts 214 = .ok (.iconst 0, 1) := by decide +kernel
theorem dX5_puts_215 : decode cX5_puts 215 = .ok (.iaload, 1) := by decide +kernel
theorem dX5_puts_216 : decode cX5_puts 216 = .ok (.ireturn, 1) := by decide +kernel
theorem dX5_takes_0 : decode cX5_takes 0 = .ok (.aload_n 0, 1) := by decide +kernel
theorem dX5_takes_1 : decode cX5_takes 1 = .ok (.iload_n 1, 1) := by decide +kernel
theorem dX5_takes_2 : decode cX5_takes 2 = .ok (.invokevirtual 124, 3) := by decide +kernel
theorem dX5_takes_5 : decode cX5_takes 5 = .ok (.ifCond .ne 5, 3) := by decide +kernel
theorem dX5_takes_8 : decode cX5_takes 8 = .ok (.iconst (-1), 1) := by decide +kernel
theorem dX5_takes_9 : decode cX5_takes 9 = .ok (.ireturn, 1) := by decide +kernel
theorem dX5_takes_10 : decode cX5_takes 10 = .ok (.aload_n 0, 1) := by decide +kernel
theorem dX5_takes_11 : decode cX5_takes 11 = .ok (.invokevirtual 137, 3) := by decide +kernel
theorem dX5_takes_14 : decode cX5_takes 14 = .ok (.aload_n 0, 1) := by decide +kernel
theorem dX5_takes_15 : decode cX5_takes 15 = .ok (.getfield 13, 3) := by decide +kernel
theorem dX5_takes_18 : decode cX5_takes 18 = .ok (.iconst 0, 1) := by decide +kernel
theorem dX5_takes_19 : decode cX5_takes 19 = .ok (.dup2, 1) := by decide +kernel
theorem dX5_takes_20 : decode cX5_takes 20 = .ok (.iaload, 1) := by decide +kernel
theorem dX5_takes_21 : decode cX5_takes 21 = .ok (.iconst 1, 1) := by decide +kernel
theorem dX5_takes_22 : decode cX5_takes 22 = .ok (.isub, 1) := by decide +kernel
theorem dX5_takes_23 : decode cX5_takes 23 = .ok (.iastore, 1) := by decide +kernel
theorem dX5_takes_24 : decode cX5_takes 24 = .ok (.iconst 1, 1) := by decide +kernel
theorem dX5_takes_25 : decode cX5_takes 25 = .ok (.iconst 4, 1) := by decide +kernel
theorem dX5_takes_26 : decode cX5_takes 26 = .ok (.iload_n 1, 1) := by decide +kernel
theorem dX5_takes_27 : decode cX5_takes 27 = .ok (.imul, 1) := by decide +kernel
theorem dX5_takes_28 : decode cX5_takes 28 = .ok (.iadd, 1) := by decide +kernel
theorem dX5_takes_29 : decode cX5_takes 29 = .ok (.istore_n 2, 1) := by decide +kernel
theorem dX5_takes_30 : decode cX5_takes 30 = .ok (.iload_n 2, 1) := by decide +kernel
theorem dX5_takes_31 : decode cX5_takes 31 = .ok (.iconst 1, 1) := by decide +kernel
theorem dX5_takes_32 : decode cX5_takes 32 = .ok (.iconst 4, 1) := by decide +kernel
theorem dX5_takes_33 : decode cX5_takes 33 = .ok (.aload_n 0, 1) := by decide +kernel
theorem dX5_takes_34 : decode cX5_takes 34 = .ok (.getfield 13, 3) := by decide +kernel
theorem dX5_takes_37 : decode cX5_takes 37 = .ok (.iconst 0, 1) := by decide +kernel
theorem dX5_takes_38 : decode cX5_takes 38 = .ok (.iaload, 1) := by decide +kernel
theorem dX5_takes_39 : decode cX5_takes 39 = .ok (.imul, 1) := by decide +kernel
theorem dX5_takes_40 : decode cX5_takes 40 = .ok (.iadd, 1) := by decide +kernel
theorem dX5_takes_41 : decode cX5_takes 41 = .ok (.if_icmp .ge 23, 3) := by decide +kernel
theorem dX5_takes_44 : decode cX5_takes 44 = .ok (.aload_n 0, 1) := by decide +kernel
theorem dX5_takes_45 : decode cX5_takes 45 = .ok (.getfield 13, 3) := by decide +kernel
theorem dX5_takes_48 : decode cX5_takes 48 = .ok (.iload_n 2, 1) := by decide +kernel
theorem dX5_takes_49 : decode cX5_takes 49 = .ok (.aload_n 0, 1) := by decide +kernel
theorem dX5_takes_50 : decode cX5_takes 50 = .ok (.getfield 13, 3) := by decide +kernel
theorem dX5_takes_53 : decode cX5_takes 53 = .ok (.iload_n 2, 1) := by decide +kernel
theorem dX5_takes_54 : decode cX5_takes 54 = .ok (.iconst 4, 1) := by decide +kernel
theorem dX5_takes_55 : decode cX5_takes 55 = .ok (.iadd, 1) := by decide +kernel
theorem dX5_takes_56 : decode cX5_takes 56 = .ok (.iaload, 1) := by decide +kernel
theorem dX5_takes_57 : decode cX5_takes 57 = .ok (.iastore, 1) := by decide +kernel
theorem dX5_takes_58 : decode cX5_takes 58 = .ok (.iinc 2 1, 3) := by decide +kernel
theorem dX5_takes_61 : decode cX5_takes 61 = .ok (.goto (-31), 3) := by decide +kernel
theorem dX5_takes_64 : decode cX5_takes 64 = .ok (.aload_n 0, 1) := by decide +kernel
theorem dX5_takes_65 : decode cX5_takes 65 = .ok (.getfield 13, 3) := by decide +kernel
theorem dX5_takes_68 : decode cX5_takes 68 = .ok (.iconst 0, 1) := by decide +kernel
theorem dX5_takes_69 : decode cX5_takes 69 = .ok (.iaload, 1) := by decide +kernel
theorem dX5_takes_70 : decode cX5_takes 70 = .ok (.ireturn, 1) := by decide +kernel
theorem dX5_calls_0 : decode cX5_calls 0 = .ok (.aload_n 0, 1) := by decide +kernel
theorem dX5_calls_1 : decode cX5_calls 1 = .ok (.iload_n 1, 1) := by decide +kernel
theorem dX5_calls_2 : decode cX5_calls 2 = .ok (.invokevirtual 114, 3) := by decide +kernel
theorem dX5_calls_5 : decode cX5_calls 5 = .ok (.ifCond .ne 5, 3) := by decide +kernel
theorem dX5_calls_8 : decode cX5_calls 8 = .ok (.iconst (-1), 1) := by decide +kernel
theorem dX5_calls_9 : decode cX5_calls 9 = .ok (.ireturn, 1) := by decide +kernel
theorem dX5_calls_10 : decode cX5_calls 10 = .ok (.aload_n 0, 1) := by decide +kernel
theorem dX5_calls_11 : decode cX5_calls 11 = .ok (.invokevirtual 137, 3) := by decide +kernel
theorem dX5_calls_14 : decode cX5_calls 14 = .ok (.aload_n 0, 1) := by decide +kernel
theorem dX5_calls_15 : decode cX5_calls 15 = .ok (.getfield 13, 3) := by decide +kernel
theorem dX5_calls_18 : decode cX5_calls 18 = .ok (.bipush 33, 2) := by decide +kernel
theorem dX5_calls_20 : decode cX5_calls 20 = .ok (.dup2, 1) := by decide +kernel
theorem dX5_calls_21 : decode cX5_calls 21 = .ok (.iaload, 1) := by decide +kernel
theorem dX5_calls_22 : decode cX5_calls 22 = .ok (.iconst 1, 1) := by decide +kernel
theorem dX5_calls_23 : decode cX5_calls 23 = .ok (.iload_n 1, 1) := by decide +kernel
theorem dX5_calls_24 : decode cX5_calls 24 = .ok (.ishl, 1) := by decide +kernel
theorem dX5_calls_25 : decode cX5_calls 25 = .ok (.ixor, 1) := by decide +kernel
theorem dX5_calls_26 : decode cX5_calls 26 = .ok (.iastore, 1) := by decide +kernel
theorem dX5_calls_27 : decode cX5_calls 27 = .ok (.aload_n 0, 1) := by decide +kernel
theorem dX5_calls_28 : decode cX5_calls 28 = .ok (.iload_n 1, 1) := by decide +kernel
theorem dX5_calls_29 : decode cX5_calls 29 = .ok (.invokevirtual 117, 3) := by decide +kernel
theorem dX5_calls_32 : decode cX5_calls 32 = .ok (.ifCond .eq 7, 3) := by decide +kernel
theorem dX5_calls_35 : decode cX5_calls 35 = .ok (.iconst 1, 1) := by decide +kernel
theorem dX5_calls_36 : decode cX5_calls 36 = .ok (.goto 4, 3) := by decide +kernel
theorem dX5_calls_39 : decode cX5_calls 39 = .ok (.iconst 0, 1) := by decide +kernel
theorem dX5_calls_40 : decode cX5_calls 40 = .ok (.ireturn, 1) := by decide +kernel
theorem dX5_tells_0 : decode cX5_tells 0 = .ok (.iload_n 1, 1) := by decide +kernel
theorem dX5_tells_1 : decode cX5_tells 1 = .ok (.iconst 0, 1) := by decide +kernel
theorem dX5_tells_2 : decode cX5_tells 2 = .ok (.bipush 20, 2) := by decide +kernel
theorem dX5_tells_4 : decode cX5_tells 4 = .ok (.invokestatic 72, 3) := by decide +kernel
theorem dX5_tells_7 : decode cX5_tells 7 = .ok (.ifCond .eq 13, 3) := by decide +kernel
theorem dX5_tells_10 : decode cX5_tells 10 = .ok (.iload_n 2, 1) := by decide +kernel
theorem dX5_tells_11 : decode cX5_tells 11 = .ok (.iconst 0, 1) := by decide +kernel
theorem dX5_tells_12 : decode cX5_tells 12 = .ok (.bipush 30, 2) := by decide +kernel
theorem dX5_tells_14 : decode cX5_tells 14 = .ok (.invokestatic 72, 3) := by decide +kernel
theorem dX5_tells_17 : decode cX5_tells 17 = .ok (.ifCond .ne 5, 3) := by decide +kernel
theorem dX5_tells_20 : decode cX5_tells 20 = .ok (.iconst (-1), 1) := by decide +kernel
theorem dX5_tells_21 : decode cX5_tells 21 = .ok (.ireturn, 1) := by decide +kernel
theorem dX5_tells_22 : decode cX5_tells 22 = .ok (.aload_n 0, 1) := by decide +kernel
theorem dX5_tells_23 : decode cX5_tells 23 = .ok (.getfield 13, 3) := by decide +kernel
theorem dX5_tells_26 : decode cX5_tells 26 = .ok (.bipush 34, 2) := by decide +kernel
theorem dX5_tells_28 : decode cX5_tells 28 = .ok (.iaload, 1) := by decide +kernel
theorem dX5_tells_29 : decode cX5_tells 29 = .ok (.iload_n 1, 1) := by decide +kernel
theorem dX5_tells_30 : decode cX5_tells 30 = .ok (.if_icmp .ne 17, 3) := by decide +kernel
theorem dX5_tells_33 : decode cX5_tells 33 = .ok (.aload_n 0, 1) := by decide +kernel
theorem dX5_tells_34 : decode cX5_tells 34 = .ok (.getfield 13, 3) := by decide +kernel
theorem dX5_tells_37 : decode cX5_tells 37 = .ok (.bipush 35, 2) := by decide +kernel
theorem dX5_tells_39 : decode cX5_tells 39 = .ok (.iaload, 1) := by decide +kernel
theorem dX5_tells_40 : decode cX5_tells 40 = .ok (.iload_n 2, 1) := by decide +kernel
theorem dX5_tells_41 : decode cX5_tells 41 = .ok (.if_icmp .ne 6, 3) := by decide +kernel
theorem dX5_tells_44 : decode cX5_tells 44 = .ok (.bipush (-2), 2) := by decide +kernel
theorem dX5_tells_46 : decode cX5_tells 46 = .ok (.ireturn, 1) := by decide +kernel
theorem dX5_tells_47 : decode cX5_tells 47 = .ok (.aload_n 0, 1) := by decide +kernel
theorem dX5_tells_48 : decode cX5_tells 48 = .ok (.invokevirtual 137, 3) := by decide +kernel
theorem dX5_tells_51 : decode cX5_tells 51 = .ok (.aload_n 0, 1) := by decide +kernel
theorem dX5_tells_52 : decode cX5_tells 52 = .ok (.getfield 13, 3) := by decide +kernel
theorem dX5_tells_55 : decode cX5_tells 55 = .ok (.bipush 34, 2) := by decide +kernel
theorem dX5_tells_57 : decode cX5_tells 57 = .ok (.iload_n 1, 1) := by decide +kernel
theorem dX5_tells_58 : decode cX5_tells 58 = .ok (.iastore, 1) := by decide +kernel
theorem dX5_tells_59 : decode cX5_tells 59 = .ok (.aload_n 0, 1) := by decide +kernel
theorem dX5_tells_60 : decode cX5_tells 60 = .ok (.getfield 13, 3) := by decide +kernel
theorem dX5_tells_63 : decode cX5_tells 63 = .ok (.bipush 35, 2) := by decide +kernel
theorem dX5_tells_65 : decode cX5_tells 65 = .ok (.iload_n 2, 1) := by decide +kernel
theorem dX5_tells_66 : decode cX5_tells 66 = .ok (.iastore, 1) := by decide +kernel
theorem dX5_tells_67 : decode cX5_tells 67 = .ok (.iconst 1, 1) := by decide +kernel
theorem dX5_tells_68 : decode cX5_tells 68 = .ok (.ireturn, 1) := by decide +kernel
theorem dX5_undo_0 : decode cX5_undo 0 = .ok (.aload_n 0, 1) := by decide +kernel
theorem dX5_undo_1 : decode cX5_undo 1 = .ok (.getfield 66, 3) := by decide +kernel
theorem dX5_undo_4 : decode cX5_undo 4 = .ok (.ifCond .ne 6, 3) := by decide +kernel
theorem dX5_undo_7 : decode cX5_undo 7 = .ok (.bipush (-2), 2) := by decide +kernel
theorem dX5_undo_9 : decode cX5_undo 9 = .ok (.ireturn, 1) := by decide +kernel
theorem dX5_undo_10 : decode cX5_undo 10 = .ok (.aload_n 0, 1) := by decide +kernel
theorem dX5_undo_11 : decode cX5_undo 11 = .ok (.dup, 1) := by decide +kernel
theorem dX5_undo_12 : decode cX5_undo 12 = .ok (.getfield 66, 3) := by decide +kernel
theorem dX5_undo_15 : decode cX5_undo 15 = .ok (.iconst 1, 1) := by decide +kernel
theorem dX5_undo_16 : decode cX5_undo 16 = .ok (.isub, 1) := by decide +kernel
theorem dX5_undo_17 : decode cX5_undo 17 = .ok (.putfield 66, 3) := by decide +kernel
theorem dX5_undo_20 : decode cX5_undo 20 = .ok (.iconst 0, 1) := by decide +kernel
theorem dX5_undo_21 : decode cX5_undo 21 = .ok (.istore_n 1, 1) := by decide +kernel
theorem dX5_undo_22 : decode cX5_undo 22 = .ok (.iload_n 1, 1) := by decide +kernel
theorem dX5_undo_23 : decode cX5_undo 23 = .ok (.bipush 36, 2) := by decide +kernel
theorem dX5_undo_25 : decode cX5_undo 25 = .ok (.if_icmp .ge 29, 3) := by decide +kernel
theorem dX5_undo_28 : decode cX5_undo 28 = .ok (.aload_n 0, 1) := by decide +kernel
theorem dX5_undo_29 : decode cX5_undo 29 = .ok (.getfield 13, 3) := by decide +kernel
theorem dX5_undo_32 : decode cX5_undo 32 = .ok (.iload_n 1, 1) := by decide +kernel
theorem dX5_undo_33 : decode cX5_undo 33 = .ok (.aload_n 0, 1) := by decide +kernel
theorem dX5_undo_34 : decode cX5_undo 34 = .ok (.getfield 16, 3) := by decide +kernel
theorem dX5_undo_37 : decode cX5_undo 37 = .ok (.bipush 36, 2) := by decide +kernel
theorem dX5_undo_39 : decode cX5_undo 39 = .ok (.aload_n 0, 1) := by decide +kernel
theorem dX5_undo_40 : decode cX5_undo 40 = .ok (.getfield 66, 3) := by decide +kernel
theorem dX5_undo_43 : decode cX5_undo 43 = .ok (.imul, 1) := by decide +kernel
theorem dX5_undo_44 : decode cX5_undo 44 = .ok (.iload_n 1, 1) := by decide +kernel
theorem dX5_undo_45 : decode cX5_undo 45 = .ok (.iadd, 1) := by decide +kernel
theorem dX5_undo_46 : decode cX5_undo 46 = .ok (.iaload, 1) := by decide +kernel
theorem dX5_undo_47 : decode cX5_undo 47 = .ok (.iastore, 1) := by decide +kernel
theorem dX5_undo_48 : decode cX5_undo 48 = .ok (.iinc 1 1, 3) := by decide +kernel
theorem dX5_undo_51 : decode cX5_undo 51 = .ok (.goto (-29), 3) := by decide +kernel
theorem dX5_undo_54 : decode cX5_undo 54 = .ok (.aload_n 0, 1) := by decide +kernel
theorem dX5_undo_55 : decode cX5_undo 55 = .ok (.getfield 66, 3) := by decide +kernel
theorem dX5_undo_58 : decode cX5_undo 58 = .ok (.ireturn, 1) := by decide +kernel
theorem dX5_ones_0 : decode cX5_ones 0 = .ok (.iload_n 0, 1) := by decide +kernel
theorem dX5_ones_1 : decode cX5_ones 1 = .ok (.iconst 1, 1) := by decide +kernel
theorem dX5_ones_2 : decode cX5_ones 2 = .ok (.iand, 1) := by decide +kernel
theorem dX5_ones_3 : decode cX5_ones 3 = .ok (.iload_n 0, 1) := by decide +kernel
theorem dX5_ones_4 : decode cX5_ones 4 = .ok (.iconst 1, 1) := by decide +kernel
theorem dX5_ones_5 : decode cX5_ones 5 = .ok (.ishr, 1) := by decide +kernel
theorem dX5_ones_6 : decode cX5_ones 6 = .ok (.iconst 1, 1) := by decide +kernel
theorem dX5_ones_7 : decode cX5_ones 7 = .ok (.iand, 1) := by decide +kernel
theorem dX5_ones_8 : decode cX5_ones 8 = .ok (.iadd, 1) := by decide +kernel
theorem dX5_ones_9 : decode cX5_ones 9 = .ok (.iload_n 0, 1) := by decide +kernel
theorem dX5_ones_10 : decode cX5_ones 10 = .ok (.iconst 2, 1) := by decide +kernel
theorem dX5_ones_11 : decode cX5_ones 11 = .ok (.ishr, 1) := by decide +kernel
theorem dX5_ones_12 : decode cX5_ones 12 = .ok (.iconst 1, 1) := by decide +kernel
theorem dX5_ones_13 : decode cX5_ones 13 = .ok (.iand, 1) := by decide +kernel
theorem dX5_ones_14 : decode cX5_ones 14 = .ok (.iadd, 1) := by decide +kernel
theorem dX5_ones_15 : decode cX5_ones 15 = .ok (.ireturn, 1) := by decide +kernel
theorem dX5_lowest_0 : decode cX5_lowest 0 = .ok (.iload_n 0, 1) := by decide +kernel
theorem dX5_lowest_1 : decode cX5_lowest 1 = .ok (.iconst 1, 1) := by decide +kernel
theorem dX5_lowest_2 : decode cX5_lowest 2 = .ok (.iand, 1) := by decide +kernel
theorem dX5_lowest_3 : decode cX5_lowest 3 = .ok (.iconst 1, 1) := by decide +kernel
theorem dX5_lowest_4 : decode cX5_lowest 4 = .ok (.if_icmp .ne 7, 3) := by decide +kernel
theorem dX5_lowest_7 : decode cX5_lowest 7 = .ok (.iconst 0, 1) := by decide +kernel
theorem dX5_lowest_8 : decode cX5_lowest 8 = .ok (.goto 15, 3) := by decide +kernel
theorem dX5_lowest_11 : decode cX5_lowest 11 = .ok (.iload_n 0, 1) := by decide +kernel
theorem dX5_lowest_12 : decode cX5_lowest 12 = .ok (.iconst 2, 1) := by decide +kernel
theorem dX5_lowest_13 : decode cX5_lowest 13 = .ok (.iand, 1) := by decide +kernel
theorem dX5_lowest_14 : decode cX5_lowest 14 = .ok (.iconst 2, 1) := by decide +kernel
theorem dX5_lowest_15 : decode cX5_lowest 15 = .ok (.if_icmp .ne 7, 3) := by decide +kernel
theorem dX5_lowest_18 : decode cX5_lowest 18 = .ok (.iconst 1, 1) := by decide +kernel
theorem dX5_lowest_19 : decode cX5_lowest 19 = .ok (.goto 4, 3) := by decide +kernel
theorem dX5_lowest_22 : decode cX5_lowest 22 = .ok (.iconst 2, 1) := by decide +kernel
theorem dX5_lowest_23 : decode cX5_lowest 23 = .ok (.ireturn, 1) := by decide +kernel
theorem dX5_highest_0 : decode cX5_highest 0 = .ok (.iload_n 0, 1) := by decide +kernel
theorem dX5_highest_1 : decode cX5_highest 1 = .ok (.iconst 3, 1) := by decide +kernel
theorem dX5_highest_2 : decode cX5_highest 2 = .ok (.if_icmp .le 7, 3) := by decide +kernel
theorem dX5_highest_5 : decode cX5_highest 5 = .ok (.iconst 2, 1) := by decide +kernel
theorem dX5_highest_6 : decode cX5_highest 6 = .ok (.goto 13, 3) := by decide +kernel
theorem dX5_highest_9 : decode cX5_highest 9 = .ok (.iload_n 0, 1) := by decide +kernel
theorem dX5_highest_10 : decode cX5_highest 10 = .ok (.iconst 1, 1) := by decide +kernel
theorem dX5_highest_11 : decode cX5_highest 11 = .ok (.if_icmp .le 7, 3) := by decide +kernel
theorem dX5_highest_14 : decode cX5_highest 14 = .ok (.iconst 1, 1) := by decide +kernel
theorem dX5_highest_15 : decode cX5_highest 15 = .ok (.goto 4, 3) := by decide +kernel
theorem dX5_highest_18 : decode cX5_highest 18 = .ok (.iconst 0, 1) := by decide +kernel
theorem dX5_highest_19 : decode cX5_highest 19 = .ok (.ireturn, 1) := by decide +kernel
theorem dX5_isHand_0 : decode cX5_isHand 0 = .ok (.iload_n 3, 1) := by decide +kernel
theorem dX5_isHand_1 : decode cX5_isHand 1 = .ok (.ifCond .ne 5, 3) := by decide +kernel
theorem dX5_isHand_4 : decode cX5_isHand 4 = .ok (.iconst 1, 1) := by decide +kernel
theorem dX5_isHand_5 : decode cX5_isHand 5 = .ok (.ireturn, 1) := by decide +kernel
theorem dX5_isHand_6 : decode cX5_isHand 6 = .ok (.aload_n 0, 1) := by decide +kernel
theorem dX5_isHand_7 : decode cX5_isHand 7 = .ok (.iload_n 2, 1) := by decide +kernel
theorem dX5_isHand_8 : decode cX5_isHand 8 = .ok (.iload_n 3, 1) := by decide +kernel
theorem dX5_isHand_9 : decode cX5_isHand 9 = .ok (.invokestatic 140, 3) := by decide +kernel
theorem dX5_isHand_12 : decode cX5_isHand 12 = .ok (.invokevirtual 130, 3) := by decide +kernel
theorem dX5_isHand_15 : decode cX5_isHand 15 = .ok (.istore 4, 2) := by decide +kernel
theorem dX5_isHand_17 : decode cX5_isHand 17 = .ok (.aload_n 0, 1) := by decide +kernel
theorem dX5_isHand_18 : decode cX5_isHand 18 = .ok (.iload_n 2, 1) := by decide +kernel
theorem dX5_isHand_19 : decode cX5_isHand 19 = .ok (.iload_n 3, 1) := by decide +kernel
theorem dX5_isHand_20 : decode cX5_isHand 20 = .ok (.invokestatic 143, 3) := by decide +kernel
theorem dX5_isHand_23 : decode cX5_isHand 23 = .ok (.invokevirtual 130, 3) := by decide +kernel
theorem dX5_isHand_26 : decode cX5_isHand 26 = .ok (.istore 5, 2) := by decide +kernel
theorem dX5_isHand_28 : decode cX5_isHand 28 = .ok (.iload 4, 2) := by decide +kernel
theorem dX5_isHand_30 : decode cX5_isHand 30 = .ok (.aload_n 0, 1) := by decide +kernel
theorem dX5_isHand_31 : decode cX5_isHand 31 = .ok (.getfield 7, 3) := by decide +kernel
theorem dX5_isHand_34 : decode cX5_isHand 34 = .ok (.iconst 5, 1) := by decide +kernel
theorem dX5_isHand_35 : decode cX5_isHand 35 = .ok (.iload_n 1, 1) := by decide +kernel
theorem dX5_isHand_36 : decode cX5_isHand 36 = .ok (.imul, 1) := by decide +kernel
theorem dX5_isHand_37 : decode cX5_isHand 37 = .ok (.iconst 1, 1) := by decide +kernel
theorem dX5_isHand_38 : decode cX5_isHand 38 = .ok (.iadd, 1) := by decide +kernel
theorem dX5_isHand_39 : decode cX5_isHand 39 = .ok (.iaload, 1) := by decide +kernel
theorem dX5_isHand_40 : decode cX5_isHand 40 = .ok (.if_icmp .lt 22, 3) := by decide +kernel
theorem dX5_isHand_43 : decode cX5_isHand 43 = .ok (.iload 5, 2) := by decide +kernel
theorem dX5_isHand_45 : decode cX5_isHand 45 = .ok (.aload_n 0, 1) := by decide +kernel
theorem dX5_isHand_46 : decode cX5_isHand 46 = .ok (.getfield 7, 3) := by decide +kernel
theorem dX5_isHand_49 : decode cX5_isHand 49 = .ok (.iconst 5, 1) := by decide +kernel
theorem dX5_isHand_50 : decode cX5_isHand 50 = .ok (.iload_n 1, 1) := by decide +kernel
theorem dX5_isHand_51 : decode cX5_isHand 51 = .ok (.imul, 1) := by decide +kernel
theorem dX5_isHand_52 : decode cX5_isHand 52 = .ok (.iconst 2, 1) := by decide +kernel
theorem dX5_isHand_53 : decode cX5_isHand 53 = .ok (.iadd, 1) := by decide +kernel
theorem dX5_isHand_54 : decode cX5_isHand 54 = .ok (.iaload, 1) := by decide +kernel
theorem dX5_isHand_55 : decode cX5_isHand 55 = .ok (.if_icmp .gt 7, 3) := by decide +kernel
theorem dX5_isHand_58 : decode cX5_isHand 58 = .ok (.iconst 1, 1) := by decide +kernel
theorem dX5_isHand_59 : decode cX5_isHand 59 = .ok (.goto 4, 3) := by decide +kernel
theorem dX5_isHand_62 : decode cX5_isHand 62 = .ok (.iconst 0, 1) := by decide +kernel
theorem dX5_isHand_63 : decode cX5_isHand 63 = .ok (.istore 6, 2) := by decide +kernel
theorem dX5_isHand_65 : decode cX5_isHand 65 = .ok (.iload 6, 2) := by decide +kernel
theorem dX5_isHand_67 : decode cX5_isHand 67 = .ok (.ifCond .eq 50, 3) := by decide +kernel
theorem dX5_isHand_70 : decode cX5_isHand 70 = .ok (.iload_n 3, 1) := by decide +kernel
theorem dX5_isHand_71 : decode cX5_isHand 71 = .ok (.invokestatic 146, 3) := by decide +kernel
theorem dX5_isHand_74 : decode cX5_isHand 74 = .ok (.iconst 1, 1) := by decide +kernel
theorem dX5_isHand_75 : decode cX5_isHand 75 = .ok (.if_icmp .eq 38, 3) := by decide +kernel
theorem dX5_isHand_78 : decode cX5_isHand 78 = .ok (.iload_n 3, 1) := by decide +kernel
theorem dX5_isHand_79 : decode cX5_isHand 79 = .ok (.invokestatic 146, 3) := by decide +kernel
theorem dX5_isHand_82 : decode cX5_isHand 82 = .ok (.iconst 2, 1) := by decide +kernel
theorem dX5_isHand_83 : decode cX5_isHand 83 = .ok (.if_icmp .ne 34, 3) := by decide +kernel
theorem dX5_isHand_86 : decode cX5_isHand 86 = .ok (.aload_n 0, 1) := by decide +kernel
theorem dX5_isHand_87 : decode cX5_isHand 87 = .ok (.iload_n 1, 1) := by decide +kernel
theorem dX5_isHand_88 : decode cX5_isHand 88 = .ok (.invokevirtual 120, 3) := by decide +kernel
theorem dX5_isHand_91 : decode cX5_isHand 91 = .ok (.iconst 1, 1) := by decide +kernel
theorem dX5_isHand_92 : decode cX5_isHand 92 = .ok (.if_icmp .ne 25, 3) := by decide +kernel
theorem dX5_isHand_95 : decode cX5_isHand 95 = .ok (.iload 5, 2) := by decide +kernel
theorem dX5_isHand_97 : decode cX5_isHand 97 = .ok (.iload 4, 2) := by decide +kernel
theorem dX5_isHand_99 : decode cX5_isHand 99 = .ok (.isub, 1) := by decide +kernel
theorem dX5_isHand_100 : decode cX5_isHand 100 = .ok (.aload_n 0, 1) := by decide +kernel
theorem dX5_isHand_101 : decode cX5_isHand 101 = .ok (.getfield 7, 3) := by decide +kernel
theorem dX5_isHand_104 : decode cX5_isHand 104 = .ok (.iconst 5, 1) := by decide +kernel
theorem dX5_isHand_105 : decode cX5_isHand 105 = .ok (.iload_n 1, 1) := by decide +kernel
theorem dX5_isHand_106 : decode cX5_isHand 106 = .ok (.imul, 1) := by decide +kernel
theorem dX5_isHand_107 : decode cX5_isHand 107 = .ok (.iconst 4, 1) := by decide +kernel
theorem dX5_isHand_108 : decode cX5_isHand 108 = .ok (.iadd, 1) := by decide +kernel
theorem dX5_isHand_109 : decode cX5_isHand 109 = .ok (.iaload, 1) := by decide +kernel
theorem dX5_isHand_110 : decode cX5_isHand 110 = .ok (.if_icmp .gt 7, 3) := by decide +kernel
theorem dX5_isHand_113 : decode cX5_isHand 113 = .ok (.iconst 1, 1) := by decide +kernel
theorem dX5_isHand_114 : decode cX5_isHand 114 = .ok (.goto 4, 3) := by decide +kernel
theorem dX5_isHand_117 : decode cX5_isHand 117 = .ok (.iconst 0, 1) := by decide +kernel
theorem dX5_isHand_118 : decode cX5_isHand 118 = .ok (.ireturn, 1) := by decide +kernel
theorem dX5_could_0 : decode cX5_could 0 = .ok (.aload_n 0, 1) := by decide +kernel
theorem dX5_could_1 : decode cX5_could 1 = .ok (.iload_n 1, 1) := by decide +kernel
theorem dX5_could_2 : decode cX5_could 2 = .ok (.invokevirtual 114, 3) := by decide +kernel
theorem dX5_could_5 : decode cX5_could 5 = .ok (.ifCond .eq 31, 3) := by decide +kernel
theorem dX5_could_8 : decode cX5_could 8 = .ok (.aload_n 0, 1) := by decide +kernel
theorem dX5_could_9 : decode cX5_could 9 = .ok (.iload_n 2, 1) := by decide +kernel
theorem dX5_could_10 : decode cX5_could 10 = .ok (.invokevirtual 124, 3) := by decide +kernel
theorem dX5_could_13 : decode cX5_could 13 = .ok (.ifCond .eq 23, 3) := by decide +kernel
theorem dX5_could_16 : decode cX5_could 16 = .ok (.iload_n 3, 1) := by decide +kernel
theorem dX5_could_17 : decode cX5_could 17 = .ok (.iconst 0, 1) := by decide +kernel
theorem dX5_could_18 : decode cX5_could 18 = .ok (.bipush 7, 2) := by decide +kernel
theorem dX5_could_20 : decode cX5_could 20 = .ok (.invokestatic 72, 3) := by decide +kernel
theorem dX5_could_23 : decode cX5_could 23 = .ok (.ifCond .eq 13, 3) := by decide +kernel
theorem dX5_could_26 : decode cX5_could 26 = .ok (.iload_n 3, 1) := by decide +kernel
theorem dX5_could_27 : decode cX5_could 27 = .ok (.aload_n 0, 1) := by decide +kernel
theorem dX5_could_28 : decode cX5_could 28 = .ok (.iload_n 2, 1) := by decide +kernel
theorem dX5_could_29 : decode cX5_could 29 = .ok (.invokevirtual 127, 3) := by decide +kernel
theorem dX5_could_32 : decode cX5_could 32 = .ok (.ishr, 1) := by decide +kernel
theorem dX5_could_33 : decode cX5_could 33 = .ok (.ifCond .eq 5, 3) := by decide +kernel
theorem dX5_could_36 : decode cX5_could 36 = .ok (.iconst (-1), 1) := by decide +kernel
theorem dX5_could_37 : decode cX5_could 37 = .ok (.ireturn, 1) := by decide +kernel
theorem dX5_could_38 : decode cX5_could 38 = .ok (.aload_n 0, 1) := by decide +kernel
theorem dX5_could_39 : decode cX5_could 39 = .ok (.iload_n 1, 1) := by decide +kernel
theorem dX5_could_40 : decode cX5_could 40 = .ok (.iload_n 2, 1) := by decide +kernel
theorem dX5_could_41 : decode cX5_could 41 = .ok (.iload_n 3, 1) := by decide +kernel
theorem dX5_could_42 : decode cX5_could 42 = .ok (.invokevirtual 149, 3) := by decide +kernel
theorem dX5_could_45 : decode cX5_could 45 = .ok (.ifCond .eq 7, 3) := by decide +kernel
theorem dX5_could_48 : decode cX5_could 48 = .ok (.iconst 1, 1) := by decide +kernel
theorem dX5_could_49 : decode cX5_could 49 = .ok (.goto 4, 3) := by decide +kernel
theorem dX5_could_52 : decode cX5_could 52 = .ok (.iconst 0, 1) := by decide +kernel
theorem dX5_could_53 : decode cX5_could 53 = .ok (.ireturn, 1) := by decide +kernel
theorem dX5_handOf_0 : decode cX5_handOf 0 = .ok (.iload_n 0, 1) := by decide +kernel
theorem dX5_handOf_1 : decode cX5_handOf 1 = .ok (.iconst 3, 1) := by decide +kernel
theorem dX5_handOf_2 : decode cX5_handOf 2 = .ok (.iconst 3, 1) := by decide +kernel
theorem dX5_handOf_3 : decode cX5_handOf 3 = .ok (.iload_n 1, 1) := by decide +kernel
theorem dX5_handOf_4 : decode cX5_handOf 4 = .ok (.isub, 1) := by decide +kernel
theorem dX5_handOf_5 : decode cX5_handOf 5 = .ok (.imul, 1) := by decide +kernel
theorem dX5_handOf_6 : decode cX5_handOf 6 = .ok (.ishr, 1) := by decide +kernel
theorem dX5_handOf_7 : decode cX5_handOf 7 = .ok (.bipush 7, 2) := by decide +kernel
theorem dX5_handOf_9 : decode cX5_handOf 9 = .ok (.iand, 1) := by decide +kernel
theorem dX5_handOf_10 : decode cX5_handOf 10 = .ok (.ireturn, 1) := by decide +kernel
theorem dX5_loudOf_0 : decode cX5_loudOf 0 = .ok (.iconst 0, 1) := by decide +kernel
theorem dX5_loudOf_1 : decode cX5_loudOf 1 = .ok (.istore_n 3, 1) := by decide +kernel
theorem dX5_loudOf_2 : decode cX5_loudOf 2 = .ok (.iconst 0, 1) := by decide +kernel
theorem dX5_loudOf_3 : decode cX5_loudOf 3 = .ok (.istore 4, 2) := by decide +kernel
theorem dX5_loudOf_5 : decode cX5_loudOf 5 = .ok (.iload 4, 2) := by decide +kernel
theorem dX5_loudOf_7 : decode cX5_loudOf 7 = .ok (.aload_n 0, 1) := by decide +kernel
theorem dX5_loudOf_8 : decode cX5_loudOf 8 = .ok (.getfield 63, 3) := by decide +kernel
theorem dX5_loudOf_11 : decode cX5_loudOf 11 = .ok (.if_icmp .ge 64, 3) := by decide +kernel
theorem dX5_loudOf_14 : decode cX5_loudOf 14 = .ok (.iload_n 1, 1) := by decide +kernel
theorem dX5_loudOf_15 : decode cX5_loudOf 15 = .ok (.iload 4, 2) := by decide +kernel
theorem dX5_loudOf_17 : decode cX5_loudOf 17 = .ok (.invokestatic 152, 3) := by decide +kernel
theorem dX5_loudOf_20 : decode cX5_loudOf 20 = .ok (.istore 5, 2) := by decide +kernel
theorem dX5_loudOf_22 : decode cX5_loudOf 22 = .ok (.aload_n 0, 1) := by decide +kernel
theorem dX5_loudOf_23 : decode cX5_loudOf 23 = .ok (.getfield 7, 3) := by decide +kernel
theorem dX5_loudOf_26 : decode cX5_loudOf 26 = .ok (.iconst 5, 1) := by decide +kernel
theorem dX5_loudOf_27 : decode cX5_loudOf 27 = .ok (.iload 4, 2) := by decide +kernel
theorem dX5_loudOf_29 : decode cX5_loudOf 29 = .ok (.imul, 1) := by decide +kernel
theorem dX5_loudOf_30 : decode cX5_loudOf 30 = .ok (.iconst 3, 1) := by decide +kernel
theorem dX5_loudOf_31 : decode cX5_loudOf 31 = .ok (.iadd, 1) := by decide +kernel
theorem dX5_loudOf_32 : decode cX5_loudOf 32 = .ok (.iaload, 1) := by decide +kernel
theorem dX5_loudOf_33 : decode cX5_loudOf 33 = .ok (.istore 6, 2) := by decide +kernel
theorem dX5_loudOf_35 : decode cX5_loudOf 35 = .ok (.iload_n 3, 1) := by decide +kernel
theorem dX5_loudOf_36 : decode cX5_loudOf 36 = .ok (.iload 5, 2) := by decide +kernel
theorem dX5_loudOf_38 : decode cX5_loudOf 38 = .ok (.iload_n 2, 1) := by decide +kernel
theorem dX5_loudOf_39 : decode cX5_loudOf 39 = .ok (.ishr, 1) := by decide +kernel
theorem dX5_loudOf_40 : decode cX5_loudOf 40 = .ok (.iconst 1, 1) := by decide +kernel
theorem dX5_loudOf_41 : decode cX5_loudOf 41 = .ok (.iand, 1) := by decide +kernel
theorem dX5_loudOf_42 : decode cX5_loudOf 42 = .ok (.ifCond .ne 7, 3) := by decide +kernel
theorem dX5_loudOf_45 : decode cX5_loudOf 45 = .ok (.iconst 0, 1) := by decide +kernel
theorem dX5_loudOf_46 : decode cX5_loudOf 46 = .ok (.goto 21, 3) := by decide +kernel
theorem dX5_loudOf_49 : decode cX5_loudOf 49 = .ok (.iload 5, 2) := by decide +kernel
theorem dX5_loudOf_51 : decode cX5_loudOf 51 = .ok (.invokestatic 146, 3) := by decide +kernel
theorem dX5_loudOf_54 : decode cX5_loudOf 54 = .ok (.iconst 2, 1) := by decide +kernel
theorem dX5_loudOf_55 : decode cX5_loudOf 55 = .ok (.if_icmp .ne 10, 3) := by decide +kernel
theorem dX5_loudOf_58 : decode cX5_loudOf 58 = .ok (.iload 6, 2) := by decide +kernel
theorem dX5_loudOf_60 : decode cX5_loudOf 60 = .ok (.iconst 2, 1) := by decide +kernel
theorem dX5_loudOf_61 : decode cX5_loudOf 61 = .ok (.idiv, 1) := by decide +kernel
theorem dX5_loudOf_62 : decode cX5_loudOf 62 = .ok (.goto 5, 3) := by decide +kernel
theorem dX5_loudOf_65 : decode cX5_loudOf 65 = .ok (.iload 6, 2) := by decide +kernel
theorem dX5_loudOf_67 : decode cX5_loudOf 67 = .ok (.iadd, 1) := by decide +kernel
theorem dX5_loudOf_68 : decode cX5_loudOf 68 = .ok (.istore_n 3, 1) := by decide +kernel
theorem dX5_loudOf_69 : decode cX5_loudOf 69 = .ok (.iinc 4 1, 3) := by decide +kernel
theorem dX5_loudOf_72 : decode cX5_loudOf 72 = .ok (.goto (-67), 3) := by decide +kernel
theorem dX5_loudOf_75 : decode cX5_loudOf 75 = .ok (.iload_n 3, 1) := by decide +kernel
theorem dX5_loudOf_76 : decode cX5_loudOf 76 = .ok (.ireturn, 1) := by decide +kernel
theorem dX5_isEven_0 : decode cX5_isEven 0 = .ok (.iconst 0, 1) := by decide +kernel
theorem dX5_isEven_1 : decode cX5_isEven 1 = .ok (.istore 4, 2) := by decide +kernel
theorem dX5_isEven_3 : decode cX5_isEven 3 = .ok (.iconst 0, 1) := by decide +kernel
theorem dX5_isEven_4 : decode cX5_isEven 4 = .ok (.istore 5, 2) := by decide +kernel
theorem dX5_isEven_6 : decode cX5_isEven 6 = .ok (.iload 5, 2) := by decide +kernel
theorem dX5_isEven_8 : decode cX5_isEven 8 = .ok (.aload_n 0, 1) := by decide +kernel
theorem dX5_isEven_9 : decode cX5_isEven 9 = .ok (.getfield 63, 3) := by decide +kernel
theorem dX5_isEven_12 : decode cX5_isEven 12 = .ok (.if_icmp .ge 20, 3) := by decide +kernel
theorem dX5_isEven_15 : decode cX5_isEven 15 = .ok (.iload 4, 2) := by decide +kernel
theorem dX5_isEven_17 : decode cX5_isEven 17 = .ok (.iload_n 2, 1) := by decide +kernel
theorem dX5_isEven_18 : decode cX5_isEven 18 = .ok (.iload 5, 2) := by decide +kernel
theorem dX5_isEven_20 : decode cX5_isEven 20 = .ok (.invokestatic 152, 3) := by decide +kernel
theorem dX5_isEven_23 : decode cX5_isEven 23 = .ok (.ior, 1) := by decide +kernel
theorem dX5_isEven_24 : decode cX5_isEven 24 = .ok (.istore 4, 2) := by decide +kernel
theorem dX5_isEven_26 : decode cX5_isEven 26 = .ok (.iinc 5 1, 3) := by decide +kernel
theorem dX5_isEven_29 : decode cX5_isEven 29 = .ok (.goto (-23), 3) := by decide +kernel
theorem dX5_isEven_32 : decode cX5_isEven 32 = .ok (.iload 4, 2) := by decide +kernel
theorem dX5_isEven_34 : decode cX5_isEven 34 = .ok (.iconst 1, 1) := by decide +kernel
theorem dX5_isEven_35 : decode cX5_isEven 35 = .ok (.aload_n 0, 1) := by decide +kernel
theorem dX5_isEven_36 : decode cX5_isEven 36 = .ok (.iload_n 1, 1) := by decide +kernel
theorem dX5_isEven_37 : decode cX5_isEven 37 = .ok (.invokevirtual 127, 3) := by decide +kernel
theorem dX5_isEven_40 : decode cX5_isEven 40 = .ok (.ishl, 1) := by decide +kernel
theorem dX5_isEven_41 : decode cX5_isEven 41 = .ok (.iconst 1, 1) := by decide +kernel
theorem dX5_isEven_42 : decode cX5_isEven 42 = .ok (.isub, 1) := by decide +kernel
theorem dX5_isEven_43 : decode cX5_isEven 43 = .ok (.if_icmp .eq 5, 3) := by decide +kernel
theorem dX5_isEven_46 : decode cX5_isEven 46 = .ok (.iconst 0, 1) := by decide +kernel
theorem dX5_isEven_47 : decode cX5_isEven 47 = .ok (.ireturn, 1) := by decide +kernel
theorem dX5_isEven_48 : decode cX5_isEven 48 = .ok (.ldc 155, 2) := by decide +kernel
theorem dX5_isEven_50 : decode cX5_isEven 50 = .ok (.istore 5, 2) := by decide +kernel
theorem dX5_isEven_52 : decode cX5_isEven 52 = .ok (.iconst 0, 1) := by decide +kernel
theorem dX5_isEven_53 : decode cX5_isEven 53 = .ok (.istore 6, 2) := by decide +kernel
theorem dX5_isEven_55 : decode cX5_isEven 55 = .ok (.iconst 0, 1) := by decide +kernel
theorem dX5_isEven_56 : decode cX5_isEven 56 = .ok (.istore 7, 2) := by decide +kernel
theorem dX5_isEven_58 : decode cX5_isEven 58 = .ok (.iload 7, 2) := by decide +kernel
theorem dX5_isEven_60 : decode cX5_isEven 60 = .ok (.aload_n 0, 1) := by decide +kernel
theorem dX5_isEven_61 : decode cX5_isEven 61 = .ok (.iload_n 1, 1) := by decide +kernel
theorem dX5_isEven_62 : decode cX5_isEven 62 = .ok (.invokevirtual 127, 3) := by decide +kernel
theorem dX5_isEven_65 : decode cX5_isEven 65 = .ok (.if_icmp .ge 50, 3) := by decide +kernel
theorem dX5_isEven_68 : decode cX5_isEven 68 = .ok (.aload_n 0, 1) := by decide +kernel
theorem dX5_isEven_69 : decode cX5_isEven 69 = .ok (.iload_n 2, 1) := by decide +kernel
theorem dX5_isEven_70 : decode cX5_isEven 70 = .ok (.iload 7, 2) := by decide +kernel
theorem dX5_isEven_72 : decode cX5_isEven 72 = .ok (.invokevirtual 156, 3) := by decide +kernel
theorem dX5_isEven_75 : decode cX5_isEven 75 = .ok (.istore 8, 2) := by decide +kernel
theorem dX5_isEven_77 : decode cX5_isEven 77 = .ok (.iload 8, 2) := by decide +kernel
theorem dX5_isEven_79 : decode cX5_isEven 79 = .ok (.iload 5, 2) := by decide +kernel
theorem dX5_isEven_81 : decode cX5_isEven 81 = .ok (.if_icmp .ge 8, 3) := by decide +kernel
theorem dX5_isEven_84 : decode cX5_isEven 84 = .ok (.iload 8, 2) := by decide +kernel
theorem dX5_isEven_86 : decode cX5_isEven 86 = .ok (.goto 5, 3) := by decide +kernel
theorem dX5_isEven_89 : decode cX5_isEven 89 = .ok (.iload 5, 2) := by decide +kernel
theorem dX5_isEven_91 : decode cX5_isEven 91 = .ok (.istore 5, 2) := by decide +kernel
theorem dX5_isEven_93 : decode cX5_isEven 93 = .ok (.iload 8, 2) := by decide +kernel
theorem dX5_isEven_95 : decode cX5_isEven 95 = .ok (.iload 6, 2) := by decide +kernel
theorem dX5_isEven_97 : decode cX5_isEven 97 = .ok (.if_icmp .le 8, 3) := by decide +kernel
theorem dX5_isEven_100 : decode cX5_isEven 100 = .ok (.iload 8, 2) := by decide +kernel
theorem dX5_isEven_102 : decode cX5_isEven 102 = .ok (.goto 5, 3) := by decide +kernel
theorem dX5_isEven_105 : decode cX5_isEven 105 = .ok (.iload 6, 2) := by decide +kernel
theorem dX5_isEven_107 : decode cX5_isEven 107 = .ok (.istore 6, 2) := by decide +kernel
theorem dX5_isEven_109 : decode cX5_isEven 109 = .ok (.iinc 7 1, 3) := by decide +kernel
theorem dX5_isEven_112 : decode cX5_isEven 112 = .ok (.goto (-54), 3) := by decide +kernel
theorem dX5_isEven_115 : decode cX5_isEven 115 = .ok (.iload 6, 2) := by decide +kernel
theorem dX5_isEven_117 : decode cX5_isEven 117 = .ok (.iload 5, 2) := by decide +kernel
theorem dX5_isEven_119 : decode cX5_isEven 119 = .ok (.isub, 1) := by decide +kernel
theorem dX5_isEven_120 : decode cX5_isEven 120 = .ok (.iload_n 3, 1) := by decide +kernel
theorem dX5_isEven_121 : decode cX5_isEven 121 = .ok (.if_icmp .gt 7, 3) := by decide +kernel
theorem dX5_isEven_124 : decode cX5_isEven 124 = .ok (.iconst 1, 1) := by decide +kernel
theorem dX5_isEven_125 : decode cX5_isEven 125 = .ok (.goto 4, 3) := by decide +kernel
theorem dX5_isEven_128 : decode cX5_isEven 128 = .ok (.iconst 0, 1) := by decide +kernel
theorem dX5_isEven_129 : decode cX5_isEven 129 = .ok (.ireturn, 1) := by decide +kernel
theorem dX5_isSpread_0 : decode cX5_isSpread 0 = .ok (.iconst 0, 1) := by decide +kernel
theorem dX5_isSpread_1 : decode cX5_isSpread 1 = .ok (.istore 5, 2) := by decide +kernel
theorem dX5_isSpread_3 : decode cX5_isSpread 3 = .ok (.iload 5, 2) := by decide +kernel
theorem dX5_isSpread_5 : decode cX5_isSpread 5 = .ok (.iconst 4, 1) := by decide +kernel
theorem dX5_isSpread_6 : decode cX5_isSpread 6 = .ok (.if_icmp .ge 78, 3) := by decide +kernel
theorem dX5_isSpread_9 : decode cX5_isSpread 9 = .ok (.iload_n 2, 1) := by decide +kernel
theorem dX5_isSpread_10 : decode cX5_isSpread 10 = .ok (.iload 5, 2) := by decide +kernel
theorem dX5_isSpread_12 : decode cX5_isSpread 12 = .ok (.invokestatic 152, 3) := by decide +kernel
theorem dX5_isSpread_15 : decode cX5_isSpread 15 = .ok (.istore 6, 2) := by decide +kernel
theorem dX5_isSpread_17 : decode cX5_isSpread 17 = .ok (.iload 6, 2) := by decide +kernel
theorem dX5_isSpread_19 : decode cX5_isSpread 19 = .ok (.ifCond .eq 45, 3) := by decide +kernel
theorem dX5_isSpread_22 : decode cX5_isSpread 22 = .ok (.iload 5, 2) := by decide +kernel
theorem dX5_isSpread_24 : decode cX5_isSpread 24 = .ok (.aload_n 0, 1) := by decide +kernel
theorem dX5_isSpread_25 : decode cX5_isSpread 25 = .ok (.getfield 63, 3) := by decide +kernel
theorem dX5_isSpread_28 : decode cX5_isSpread 28 = .ok (.if_icmp .ge 40, 3) := by decide +kernel
theorem dX5_isSpread_31 : decode cX5_isSpread 31 = .ok (.iload_n 3, 1) := by decide +kernel
theorem dX5_isSpread_32 : decode cX5_isSpread 32 = .ok (.iload 5, 2) := by decide +kernel
theorem dX5_isSpread_34 : decode cX5_isSpread 34 = .ok (.ishr, 1) := by decide +kernel
theorem dX5_isSpread_35 : decode cX5_isSpread 35 = .ok (.iconst 1, 1) := by decide +kernel
theorem dX5_isSpread_36 : decode cX5_isSpread 36 = .ok (.iand, 1) := by decide +kernel
theorem dX5_isSpread_37 : decode cX5_isSpread 37 = .ok (.iconst 1, 1) := by decide +kernel
theorem dX5_isSpread_38 : decode cX5_isSpread 38 = .ok (.if_icmp .ne 30, 3) := by decide +kernel
theorem dX5_isSpread_41 : decode cX5_isSpread 41 = .ok (.iload 6, 2) := by decide +kernel
theorem dX5_isSpread_43 : decode cX5_isSpread 43 = .ok (.aload_n 0, 1) := by decide +kernel
theorem dX5_isSpread_44 : decode cX5_isSpread 44 = .ok (.iload_n 1, 1) := by decide +kernel
theorem dX5_isSpread_45 : decode cX5_isSpread 45 = .ok (.invokevirtual 127, 3) := by decide +kernel
theorem dX5_isSpread_48 : decode cX5_isSpread 48 = .ok (.ishr, 1) := by decide +kernel
theorem dX5_isSpread_49 : decode cX5_isSpread 49 = .ok (.ifCond .ne 19, 3) := by decide +kernel
theorem dX5_isSpread_52 : decode cX5_isSpread 52 = .ok (.aload_n 0, 1) := by decide +kernel
theorem dX5_isSpread_53 : decode cX5_isSpread 53 = .ok (.iload 5, 2) := by decide +kernel
theorem dX5_isSpread_55 : decode cX5_isSpread 55 = .ok (.iload_n 1, 1) := by decide +kernel
theorem dX5_isSpread_56 : decode cX5_isSpread 56 = .ok (.iload 6, 2) := by decide +kernel
theorem dX5_isSpread_58 : decode cX5_isSpread 58 = .ok (.invokevirtual 149, 3) := by decide +kernel
theorem dX5_isSpread_61 : decode cX5_isSpread 61 = .ok (.ifCond .eq 7, 3) := by decide +kernel
theorem dX5_isSpread_64 : decode cX5_isSpread 64 = .ok (.iconst 1, 1) := by decide +kernel
theorem dX5_isSpread_65 : decode cX5_isSpread 65 = .ok (.goto 4, 3) := by decide +kernel
theorem dX5_isSpread_68 : decode cX5_isSpread 68 = .ok (.iconst 0, 1) := by decide +kernel
theorem dX5_isSpread_69 : decode cX5_isSpread 69 = .ok (.istore 7, 2) := by decide +kernel
theorem dX5_isSpread_71 : decode cX5_isSpread 71 = .ok (.iload 7, 2) := by decide +kernel
theorem dX5_isSpread_73 : decode cX5_isSpread 73 = .ok (.ifCond .ne 5, 3) := by decide +kernel
theorem dX5_isSpread_76 : decode cX5_isSpread 76 = .ok (.iconst 0, 1) := by decide +kernel
theorem dX5_isSpread_77 : decode cX5_isSpread 77 = .ok (.ireturn, 1) := by decide +kernel
theorem dX5_isSpread_78 : decode cX5_isSpread 78 = .ok (.iinc 5 1, 3) := by decide +kernel
theorem dX5_isSpread_81 : decode cX5_isSpread 81 = .ok (.goto (-78), 3) := by decide +kernel
theorem dX5_isSpread_84 : decode cX5_isSpread 84 = .ok (.aload_n 0, 1) := by decide +kernel
theorem dX5_isSpread_85 : decode cX5_isSpread 85 = .ok (.iload_n 1, 1) := by decide +kernel
theorem dX5_isSpread_86 : decode cX5_isSpread 86 = .ok (.iload_n 2, 1) := by decide +kernel
theorem dX5_isSpread_87 : decode cX5_isSpread 87 = .ok (.iload 4, 2) := by decide +kernel
theorem dX5_isSpread_89 : decode cX5_isSpread 89 = .ok (.invokevirtual 159, 3) := by decide +kernel
theorem dX5_isSpread_92 : decode cX5_isSpread 92 = .ok (.ireturn, 1) := by decide +kernel
theorem dX5_laysSpreads_0 : decode cX5_laysSpreads 0 = .ok (.aload_n 0, 1) := by decide +kernel
theorem dX5_laysSpreads_1 : decode cX5_laysSpreads 1 = .ok (.getfield 44, 3) := by decide +kernel
theorem dX5_laysSpreads_4 : decode cX5_laysSpreads 4 = .ok (.iload_n 1, 1) := by decide +kernel
theorem dX5_laysSpreads_5 : decode cX5_laysSpreads 5 = .ok (.iconst 0, 1) := by decide +kernel
theorem dX5_laysSpreads_6 : decode cX5_laysSpreads 6 = .ok (.iastore, 1) := by decide +kernel
theorem dX5_laysSpreads_7 : decode cX5_laysSpreads 7 = .ok (.iconst 0, 1) := by decide +kernel
theorem dX5_laysSpreads_8 : decode cX5_laysSpreads 8 = .ok (.istore 4, 2) := by decide +kernel
theorem dX5_laysSpreads_10 : decode cX5_laysSpreads 10 = .ok (.iload 4, 2) := by decide +kernel
theorem dX5_laysSpreads_12 : decode cX5_laysSpreads 12 = .ok (.sipush 4096, 3) := by decide +kernel
theorem dX5_laysSpreads_15 : decode cX5_laysSpreads 15 = .ok (.if_icmp .ge 50, 3) := by decide +kernel
theorem dX5_laysSpreads_18 : decode cX5_laysSpreads 18 = .ok (.aload_n 0, 1) := by decide +kernel
theorem dX5_laysSpreads_19 : decode cX5_laysSpreads 19 = .ok (.iload_n 1, 1) := by decide +kernel
theorem dX5_laysSpreads_20 : decode cX5_laysSpreads 20 = .ok (.iload 4, 2) := by decide +kernel
theorem dX5_laysSpreads_22 : decode cX5_laysSpreads 22 = .ok (.iload_n 2, 1) := by decide +kernel
theorem dX5_laysSpreads_23 : decode cX5_laysSpreads 23 = .ok (.iload_n 3, 1) := by decide +kernel
theorem dX5_laysSpreads_24 : decode cX5_laysSpreads 24 = .ok (.invokevirtual 162, 3) := by decide +kernel
theorem dX5_laysSpreads_27 : decode cX5_laysSpreads 27 = .ok (.ifCond .eq 32, 3) := by decide +kernel
theorem dX5_laysSpreads_30 : decode cX5_laysSpreads 30 = .ok (.aload_n 0, 1) := by decide +kernel
theorem dX5_laysSpreads_31 : decode cX5_laysSpreads 31 = .ok (.getfield 41, 3) := by decide +kernel
theorem dX5_laysSpreads_34 : decode cX5_laysSpreads 34 = .ok (.sipush 784, 3) := by decide +kernel
theorem dX5_laysSpreads_37 : decode cX5_laysSpreads 37 = .ok (.iload_n 1, 1) := by decide +kernel
theorem dX5_laysSpreads_38 : decode cX5_laysSpreads 38 = .ok (.imul, 1) := by decide +kernel
theorem dX5_laysSpreads_39 : decode cX5_laysSpreads 39 = .ok (.aload_n 0, 1) := by decide +kernel
theorem dX5_laysSpreads_40 : decode cX5_laysSpreads 40 = .ok (.getfield 44, 3) := by decide +kernel
theorem dX5_laysSpreads_43 : decode cX5_laysSpreads 43 = .ok (.iload_n 1, 1) := by decide +kernel
theorem dX5_laysSpreads_44 : decode cX5_laysSpreads 44 = .ok (.iaload, 1) := by decide +kernel
theorem dX5_laysSpreads_45 : decode cX5_laysSpreads 45 = .ok (.iadd, 1) := by decide +kernel
theorem dX5_laysSpreads_46 : decode cX5_laysSpreads 46 = .ok (.iload 4, 2) := by decide +kernel
theorem dX5_laysSpreads_48 : decode cX5_laysSpreads 48 = .ok (.iastore, 1) := by decide +kernel
theorem dX5_laysSpreads_49 : decode cX5_laysSpreads 49 = .ok (.aload_n 0, 1) := by decide +kernel
theorem dX5_laysSpreads_50 : decode cX5_laysSpreads 50 = .ok (.getfield 44, 3) := by decide +kernel
theorem dX5_laysSpreads_53 : decode cX5_laysSpreads 53 = .ok (.iload_n 1, 1) := by decide +kernel
theorem dX5_laysSpreads_54 : decode cX5_laysSpreads 54 = .ok (.dup2, 1) := by decide +kernel
theorem dX5_laysSpreads_55 : decode cX5_laysSpreads 55 = .ok (.iaload, 1) := by decide +kernel
theorem dX5_laysSpreads_56 : decode cX5_laysSpreads 56 = .ok (.iconst 1, 1) := by decide +kernel
theorem dX5_laysSpreads_57 : decode cX5_laysSpreads 57 = .ok (.iadd, 1) := by decide +kernel
theorem dX5_laysSpreads_58 : decode cX5_laysSpreads 58 = .ok (.iastore, 1) := by decide +kernel
theorem dX5_laysSpreads_59 : decode cX5_laysSpreads 59 = .ok (.iinc 4 1, 3) := by decide +kernel
theorem dX5_laysSpreads_62 : decode cX5_laysSpreads 62 = .ok (.goto (-52), 3) := by decide +kernel
theorem dX5_laysSpreads_65 : decode cX5_laysSpreads 65 = .ok (.return_, 1) := by decide +kernel
theorem dX5_spreads_0 : decode cX5_spreads 0 = .ok (.aload_n 0, 1) := by decide +kernel
theorem dX5_spreads_1 : decode cX5_spreads 1 = .ok (.iload_n 1, 1) := by decide +kernel
theorem dX5_spreads_2 : decode cX5_spreads 2 = .ok (.invokevirtual 124, 3) := by decide +kernel
theorem dX5_spreads_5 : decode cX5_spreads 5 = .ok (.ifCond .ne 5, 3) := by decide +kernel
theorem dX5_spreads_8 : decode cX5_spreads 8 = .ok (.iconst (-1), 1) := by decide +kernel
theorem dX5_spreads_9 : decode cX5_spreads 9 = .ok (.ireturn, 1) := by decide +kernel
theorem dX5_spreads_10 : decode cX5_spreads 10 = .ok (.aload_n 0, 1) := by decide +kernel
theorem dX5_spreads_11 : decode cX5_spreads 11 = .ok (.iload_n 1, 1) := by decide +kernel
theorem dX5_spreads_12 : decode cX5_spreads 12 = .ok (.aload_n 0, 1) := by decide +kernel
theorem dX5_spreads_13 : decode cX5_spreads 13 = .ok (.getfield 13, 3) := by decide +kernel
theorem dX5_spreads_16 : decode cX5_spreads 16 = .ok (.bipush 33, 2) := by decide +kernel
theorem dX5_spreads_18 : decode cX5_spreads 18 = .ok (.iaload, 1) := by decide +kernel
theorem dX5_spreads_19 : decode cX5_spreads 19 = .ok (.aload_n 0, 1) := by decide +kernel
theorem dX5_spreads_20 : decode cX5_spreads 20 = .ok (.getfield 13, 3) := by decide +kernel
theorem dX5_spreads_23 : decode cX5_spreads 23 = .ok (.bipush 35, 2) := by decide +kernel
theorem dX5_spreads_25 : decode cX5_spreads 25 = .ok (.iaload, 1) := by decide +kernel
theorem dX5_spreads_26 : decode cX5_spreads 26 = .ok (.invokevirtual 166, 3) := by decide +kernel
theorem dX5_spreads_29 : decode cX5_spreads 29 = .ok (.aload_n 0, 1) := by decide +kernel
theorem dX5_spreads_30 : decode cX5_spreads 30 = .ok (.getfield 44, 3) := by decide +kernel
theorem dX5_spreads_33 : decode cX5_spreads 33 = .ok (.iload_n 1, 1) := by decide +kernel
theorem dX5_spreads_34 : decode cX5_spreads 34 = .ok (.iaload, 1) := by decide +kernel
theorem dX5_spreads_35 : decode cX5_spreads 35 = .ok (.ireturn, 1) := by decide +kernel
theorem dX5_moveOf_0 : decode cX5_moveOf 0 = .ok (.iload_n 2, 1) := by decide +kernel
theorem dX5_moveOf_1 : decode cX5_moveOf 1 = .ok (.ifCond .eq 7, 3) := by decide +kernel
theorem dX5_moveOf_4 : decode cX5_moveOf 4 = .ok (.iload_n 3, 1) := by decide +kernel
theorem dX5_moveOf_5 : decode cX5_moveOf 5 = .ok (.ifCond .ne 20, 3) := by decide +kernel
theorem dX5_moveOf_8 : decode cX5_moveOf 8 = .ok (.iload_n 2, 1) := by decide +kernel
theorem dX5_moveOf_9 : decode cX5_moveOf 9 = .ok (.iload_n 3, 1) := by decide +kernel
theorem dX5_moveOf_10 : decode cX5_moveOf 10 = .ok (.if_icmp .ne 7, 3) := by decide +kernel
theorem dX5_moveOf_13 : decode cX5_moveOf 13 = .ok (.iconst 0, 1) := by decide +kernel
theorem dX5_moveOf_14 : decode cX5_moveOf 14 = .ok (.goto 10, 3) := by decide +kernel
theorem dX5_moveOf_17 : decode cX5_moveOf 17 = .ok (.aload_n 0, 1) := by decide +kernel
theorem dX5_moveOf_18 : decode cX5_moveOf 18 = .ok (.getfield 13, 3) := by decide +kernel
theorem dX5_moveOf_21 : decode cX5_moveOf 21 = .ok (.bipush 34, 2) := by decide +kernel
theorem dX5_moveOf_23 : decode cX5_moveOf 23 = .ok (.iaload, 1) := by decide +kernel
theorem dX5_moveOf_24 : decode cX5_moveOf 24 = .ok (.ireturn, 1) := by decide +kernel
theorem dX5_moveOf_25 : decode cX5_moveOf 25 = .ok (.aload_n 0, 1) := by decide +kernel
theorem dX5_moveOf_26 : decode cX5_moveOf 26 = .ok (.iload_n 1, 1) := by decide +kernel
theorem dX5_moveOf_27 : decode cX5_moveOf 27 = .ok (.iload_n 2, 1) := by decide +kernel
theorem dX5_moveOf_28 : decode cX5_moveOf 28 = .ok (.invokestatic 140, 3) := by decide +kernel
theorem dX5_moveOf_31 : decode cX5_moveOf 31 = .ok (.invokevirtual 130, 3) := by decide +kernel
theorem dX5_moveOf_34 : decode cX5_moveOf 34 = .ok (.aload_n 0, 1) := by decide +kernel
theorem dX5_moveOf_35 : decode cX5_moveOf 35 = .ok (.iload_n 1, 1) := by decide +kernel
theorem dX5_moveOf_36 : decode cX5_moveOf 36 = .ok (.iconst 1, 1) := by decide +kernel
theorem dX5_moveOf_37 : decode cX5_moveOf 37 = .ok (.iadd, 1) := by decide +kernel
theorem dX5_moveOf_38 : decode cX5_moveOf 38 = .ok (.iload_n 3, 1) := by decide +kernel
theorem dX5_moveOf_39 : decode cX5_moveOf 39 = .ok (.invokestatic 140, 3) := by decide +kernel
theorem dX5_moveOf_42 : decode cX5_moveOf 42 = .ok (.invokevirtual 130, 3) := by decide +kernel
theorem dX5_moveOf_45 : decode cX5_moveOf 45 = .ok (.isub, 1) := by decide +kernel
theorem dX5_moveOf_46 : decode cX5_moveOf 46 = .ok (.istore 4, 2) := by decide +kernel
theorem dX5_moveOf_48 : decode cX5_moveOf 48 = .ok (.iload 4, 2) := by decide +kernel
theorem dX5_moveOf_50 : decode cX5_moveOf 50 = .ok (.ifCond .ge 9, 3) := by decide +kernel
theorem dX5_moveOf_53 : decode cX5_moveOf 53 = .ok (.iload 4, 2) := by decide +kernel
theorem dX5_moveOf_55 : decode cX5_moveOf 55 = .ok (.ineg, 1) := by decide +kernel
theorem dX5_moveOf_56 : decode cX5_moveOf 56 = .ok (.goto 5, 3) := by decide +kernel
theorem dX5_moveOf_59 : decode cX5_moveOf 59 = .ok (.iload 4, 2) := by decide +kernel
theorem dX5_moveOf_61 : decode cX5_moveOf 61 = .ok (.iload_n 2, 1) := by decide +kernel
theorem dX5_moveOf_62 : decode cX5_moveOf 62 = .ok (.invokestatic 146, 3) := by decide +kernel
theorem dX5_moveOf_65 : decode cX5_moveOf 65 = .ok (.iload_n 3, 1) := by decide +kernel
theorem dX5_moveOf_66 : decode cX5_moveOf 66 = .ok (.invokestatic 146, 3) := by decide +kernel
theorem dX5_moveOf_69 : decode cX5_moveOf 69 = .ok (.if_icmp .ne 7, 3) := by decide +kernel
theorem dX5_moveOf_72 : decode cX5_moveOf 72 = .ok (.iconst 0, 1) := by decide +kernel
theorem dX5_moveOf_73 : decode cX5_moveOf 73 = .ok (.goto 4, 3) := by decide +kernel
theorem dX5_moveOf_76 : decode cX5_moveOf 76 = .ok (.iconst 2, 1) := by decide +kernel
theorem dX5_moveOf_77 : decode cX5_moveOf 77 = .ok (.iadd, 1) := by decide +kernel
theorem dX5_moveOf_78 : decode cX5_moveOf 78 = .ok (.ireturn, 1) := by decide +kernel
theorem dX5_movesOf_0 : decode cX5_movesOf 0 = .ok (.iconst 0, 1) := by decide +kernel
theorem dX5_movesOf_1 : decode cX5_movesOf 1 = .ok (.istore 4, 2) := by decide +kernel
theorem dX5_movesOf_3 : decode cX5_movesOf 3 = .ok (.iconst 0, 1) := by decide +kernel
theorem dX5_movesOf_4 : decode cX5_movesOf 4 = .ok (.istore 5, 2) := by decide +kernel
theorem dX5_movesOf_6 : decode cX5_movesOf 6 = .ok (.iload 5, 2) := by decide +kernel
theorem dX5_movesOf_8 : decode cX5_movesOf 8 = .ok (.aload_n 0, 1) := by decide +kernel
theorem dX5_movesOf_9 : decode cX5_movesOf 9 = .ok (.getfield 63, 3) := by decide +kernel
theorem dX5_movesOf_12 : decode cX5_movesOf 12 = .ok (.if_icmp .ge 87, 3) := by decide +kernel
theorem dX5_movesOf_15 : decode cX5_movesOf 15 = .ok (.iload_n 2, 1) := by decide +kernel
theorem dX5_movesOf_16 : decode cX5_movesOf 16 = .ok (.iload 5, 2) := by decide +kernel
theorem dX5_movesOf_18 : decode cX5_movesOf 18 = .ok (.invokestatic 152, 3) := by decide +kernel
theorem dX5_movesOf_21 : decode cX5_movesOf 21 = .ok (.istore 6, 2) := by decide +kernel
theorem dX5_movesOf_23 : decode cX5_movesOf 23 = .ok (.iload_n 3, 1) := by decide +kernel
theorem dX5_movesOf_24 : decode cX5_movesOf 24 = .ok (.iload 5, 2) := by decide +kernel
theorem dX5_movesOf_26 : decode cX5_movesOf 26 = .ok (.invokestatic 152, 3) := by decide +kernel
theorem dX5_movesOf_29 : decode cX5_movesOf 29 = .ok (.istore 7, 2) := by decide +kernel
theorem dX5_movesOf_31 : decode cX5_movesOf 31 = .ok (.aload_n 0, 1) := by decide +kernel
theorem dX5_movesOf_32 : decode cX5_movesOf 32 = .ok (.iload 5, 2) := by decide +kernel
theorem dX5_movesOf_34 : decode cX5_movesOf 34 = .ok (.invokevirtual 120, 3) := by decide +kernel
theorem dX5_movesOf_37 : decode cX5_movesOf 37 = .ok (.iconst 2, 1) := by decide +kernel
theorem dX5_movesOf_38 : decode cX5_movesOf 38 = .ok (.if_icmp .ne 41, 3) := by decide +kernel
theorem dX5_movesOf_41 : decode cX5_movesOf 41 = .ok (.iload 6, 2) := by decide +kernel
theorem dX5_movesOf_43 : decode cX5_movesOf 43 = .ok (.ifCond .eq 36, 3) := by decide +kernel
theorem dX5_movesOf_46 : decode cX5_movesOf 46 = .ok (.iload 7, 2) := by decide +kernel
theorem dX5_movesOf_48 : decode cX5_movesOf 48 = .ok (.ifCond .eq 31, 3) := by decide +kernel
theorem dX5_movesOf_51 : decode cX5_movesOf 51 = .ok (.aload_n 0, 1) := by decide +kernel
theorem dX5_movesOf_52 : decode cX5_movesOf 52 = .ok (.iload_n 1, 1) := by decide +kernel
theorem dX5_movesOf_53 : decode cX5_movesOf 53 = .ok (.iload 6, 2) := by decide +kernel
theorem dX5_movesOf_55 : decode cX5_movesOf 55 = .ok (.invokestatic 140, 3) := by decide +kernel
theorem dX5_movesOf_58 : decode cX5_movesOf 58 = .ok (.invokevirtual 130, 3) := by decide +kernel
theorem dX5_movesOf_61 : decode cX5_movesOf 61 = .ok (.aload_n 0, 1) := by decide +kernel
theorem dX5_movesOf_62 : decode cX5_movesOf 62 = .ok (.iload_n 1, 1) := by decide +kernel
theorem dX5_movesOf_63 : decode cX5_movesOf 63 = .ok (.iconst 1, 1) := by decide +kernel
theorem dX5_movesOf_64 : decode cX5_movesOf 64 = .ok (.iadd, 1) := by decide +kernel
theorem dX5_movesOf_65 : decode cX5_movesOf 65 = .ok (.iload 7, 2) := by decide +kernel
theorem dX5_movesOf_67 : decode cX5_movesOf 67 = .ok (.invokestatic 140, 3) := by decide +kernel
theorem dX5_movesOf_70 : decode cX5_movesOf 70 = .ok (.invokevirtual 130, 3) := by decide +kernel
theorem dX5_movesOf_73 : decode cX5_movesOf 73 = .ok (.if_icmp .ne 6, 3) := by decide +kernel
theorem dX5_movesOf_76 : decode cX5_movesOf 76 = .ok (.ldc 155, 2) := by decide +kernel
theorem dX5_movesOf_78 : decode cX5_movesOf 78 = .ok (.ireturn, 1) := by decide +kernel
theorem dX5_movesOf_79 : decode cX5_movesOf 79 = .ok (.iload 4, 2) := by decide +kernel
theorem dX5_movesOf_81 : decode cX5_movesOf 81 = .ok (.aload_n 0, 1) := by decide +kernel
theorem dX5_movesOf_82 : decode cX5_movesOf 82 = .ok (.iload_n 1, 1) := by decide +kernel
theorem dX5_movesOf_83 : decode cX5_movesOf 83 = .ok (.iload 6, 2) := by decide +kernel
theorem dX5_movesOf_85 : decode cX5_movesOf 85 = .ok (.iload 7, 2) := by decide +kernel
theorem dX5_movesOf_87 : decode cX5_movesOf 87 = .ok (.invokevirtual 170, 3) := by decide +kernel
theorem dX5_movesOf_90 : decode cX5_movesOf 90 = .ok (.iadd, 1) := by decide +kernel
theorem dX5_movesOf_91 : decode cX5_movesOf 91 = .ok (.istore 4, 2) := by decide +kernel
theorem dX5_movesOf_93 : decode cX5_movesOf 93 = .ok (.iinc 5 1, 3) := by decide +kernel
theorem dX5_movesOf_96 : decode cX5_movesOf 96 = .ok (.goto (-90), 3) := by decide +kernel
theorem dX5_movesOf_99 : decode cX5_movesOf 99 = .ok (.iload 4, 2) := by decide +kernel
theorem dX5_movesOf_101 : decode cX5_movesOf 101 = .ok (.ireturn, 1) := by decide +kernel
theorem dX5_leastBehind_0 : decode cX5_leastBehind 0 = .ok (.iload_n 1, 1) := by decide +kernel
theorem dX5_leastBehind_1 : decode cX5_leastBehind 1 = .ok (.iload_n 3, 1) := by decide +kernel
theorem dX5_leastBehind_2 : decode cX5_leastBehind 2 = .ok (.iconst 1, 1) := by decide +kernel
theorem dX5_leastBehind_3 : decode cX5_leastBehind 3 = .ok (.isub, 1) := by decide +kernel
theorem dX5_leastBehind_4 : decode cX5_leastBehind 4 = .ok (.if_icmp .ne 5, 3) := by decide +kernel
theorem dX5_leastBehind_7 : decode cX5_leastBehind 7 = .ok (.iconst 0, 1) := by decide +kernel
theorem dX5_leastBehind_8 : decode cX5_leastBehind 8 = .ok (.ireturn, 1) := by decide +kernel
theorem dX5_leastBehind_9 : decode cX5_leastBehind 9 = .ok (.ldc 155, 2) := by decide +kernel
theorem dX5_leastBehind_11 : decode cX5_leastBehind 11 = .ok (.istore 4, 2) := by decide +kernel
theorem dX5_leastBehind_13 : decode cX5_leastBehind 13 = .ok (.iconst 0, 1) := by decide +kernel
theorem dX5_leastBehind_14 : decode cX5_leastBehind 14 = .ok (.istore 5, 2) := by decide +kernel
theorem dX5_leastBehind_16 : decode cX5_leastBehind 16 = .ok (.iload 5, 2) := by decide +kernel
theorem dX5_leastBehind_18 : decode cX5_leastBehind 18 = .ok (.aload_n 0, 1) := by decide +kernel
theorem dX5_leastBehind_19 : decode cX5_leastBehind 19 = .ok (.getfield 44, 3) := by decide +kernel
theorem dX5_leastBehind_22 : decode cX5_leastBehind 22 = .ok (.iload_n 1, 1) := by decide +kernel
theorem dX5_leastBehind_23 : decode cX5_leastBehind 23 = .ok (.iconst 1, 1) := by decide +kernel
theorem dX5_leastBehind_24 : decode cX5_leastBehind 24 = .ok (.iadd, 1) := by decide +kernel
theorem dX5_leastBehind_25 : decode cX5_leastBehind 25 = .ok (.iaload, 1) := by decide +kernel
theorem dX5_leastBehind_26 : decode cX5_leastBehind 26 = .ok (.if_icmp .ge 75, 3) := by decide +kernel
theorem dX5_leastBehind_29 : decode cX5_leastBehind 29 = .ok (.aload_n 0, 1) := by decide +kernel
theorem dX5_leastBehind_30 : decode cX5_leastBehind 30 = .ok (.getfield 47, 3) := by decide +kernel
theorem dX5_leastBehind_33 : decode cX5_leastBehind 33 = .ok (.sipush 784, 3) := by decide +kernel
theorem dX5_leastBehind_36 : decode cX5_leastBehind 36 = .ok (.iload_n 1, 1) := by decide +kernel
theorem dX5_leastBehind_37 : decode cX5_leastBehind 37 = .ok (.iconst 1, 1) := by decide +kernel
theorem dX5_leastBehind_38 : decode cX5_leastBehind 38 = .ok (.iadd, 1) := by decide +kernel
theorem dX5_leastBehind_39 : decode cX5_leastBehind 39 = .ok (.imul, 1) := by decide +kernel
theorem dX5_leastBehind_40 : decode cX5_leastBehind 40 = .ok (.iload 5, 2) := by decide +kernel
theorem dX5_leastBehind_42 : decode cX5_leastBehind 42 = .ok (.iadd, 1) := by decide +kernel
theorem dX5_leastBehind_43 : decode cX5_leastBehind 43 = .ok (.iaload, 1) := by decide +kernel
theorem dX5_leastBehind_44 : decode cX5_leastBehind 44 = .ok (.istore 6, 2) := by decide +kernel
theorem dX5_leastBehind_46 : decode cX5_leastBehind 46 = .ok (.iload 6, 2) := by decide +kernel
theorem dX5_leastBehind_48 : decode cX5_leastBehind 48 = .ok (.iload 4, 2) := by decide +kernel
theorem dX5_leastBehind_50 : decode cX5_leastBehind 50 = .ok (.if_icmp .ge 45, 3) := by decide +kernel
theorem dX5_leastBehind_53 : decode cX5_leastBehind 53 = .ok (.iload 6, 2) := by decide +kernel
theorem dX5_leastBehind_55 : decode cX5_leastBehind 55 = .ok (.aload_n 0, 1) := by decide +kernel
theorem dX5_leastBehind_56 : decode cX5_leastBehind 56 = .ok (.iload_n 1, 1) := by decide +kernel
theorem dX5_leastBehind_57 : decode cX5_leastBehind 57 = .ok (.iload_n 2, 1) := by decide +kernel
theorem dX5_leastBehind_58 : decode cX5_leastBehind 58 = .ok (.aload_n 0, 1) := by decide +kernel
theorem dX5_leastBehind_59 : decode cX5_leastBehind 59 = .ok (.getfield 41, 3) := by decide +kernel
theorem dX5_leastBehind_62 : decode cX5_leastBehind 62 = .ok (.sipush 784, 3) := by decide +kernel
theorem dX5_leastBehind_65 : decode cX5_leastBehind 65 = .ok (.iload_n 1, 1) := by decide +kernel
theorem dX5_leastBehind_66 : decode cX5_leastBehind 66 = .ok (.iconst 1, 1) := by decide +kernel
theorem dX5_leastBehind_67 : decode cX5_leastBehind 67 = .ok (.iadd, 1) := by decide +kernel
theorem dX5_leastBehind_68 : decode cX5_leastBehind 68 = .ok (.imul, 1) := by decide +kernel
theorem dX5_leastBehind_69 : decode cX5_leastBehind 69 = .ok (.iload 5, 2) := by decide +kernel
theorem dX5_leastBehind_71 : decode cX5_leastBehind 71 = .ok (.iadd, 1) := by decide +kernel
theorem dX5_leastBehind_72 : decode cX5_leastBehind 72 = .ok (.iaload, 1) := by decide +kernel
theorem dX5_leastBehind_73 : decode cX5_leastBehind 73 = .ok (.invokevirtual 174, 3) := by decide +kernel
theorem dX5_leastBehind_76 : decode cX5_leastBehind 76 = .ok (.iadd, 1) := by decide +kernel
theorem dX5_leastBehind_77 : decode cX5_leastBehind 77 = .ok (.istore 7, 2) := by decide +kernel
theorem dX5_leastBehind_79 : decode cX5_leastBehind 79 = .ok (.iload 7, 2) := by decide +kernel
theorem dX5_leastBehind_81 : decode cX5_leastBehind 81 = .ok (.iload 4, 2) := by decide +kernel
theorem dX5_leastBehind_83 : decode cX5_leastBehind 83 = .ok (.if_icmp .ge 8, 3) := by decide +kernel
theorem dX5_leastBehind_86 : decode cX5_leastBehind 86 = .ok (.iload 7, 2) := by decide +kernel
theorem dX5_leastBehind_88 : decode cX5_leastBehind 88 = .ok (.goto 5, 3) := by decide +kernel
theorem dX5_leastBehind_91 : decode cX5_leastBehind 91 = .ok (.iload 4, 2) := by decide +kernel
theorem dX5_leastBehind_93 : decode cX5_leastBehind 93 = .ok (.istore 4, 2) := by decide +kernel
theorem dX5_leastBehind_95 : decode cX5_leastBehind 95 = .ok (.iinc 5 1, 3) := by decide +kernel
theorem dX5_leastBehind_98 : decode cX5_leastBehind 98 = .ok (.goto (-82), 3) := by decide +kernel
theorem dX5_leastBehind_101 : decode cX5_leastBehind 101 = .ok (.iload 4, 2) := by decide +kernel
theorem dX5_leastBehind_103 : decode cX5_leastBehind 103 = .ok (.ireturn, 1) := by decide +kernel
theorem dX5_laysScore_0 : decode cX5_laysScore 0 = .ok (.iload_n 3, 1) := by decide +kernel
theorem dX5_laysScore_1 : decode cX5_laysScore 1 = .ok (.ifCond .ne 7, 3) := by decide +kernel
theorem dX5_laysScore_4 : decode cX5_laysScore 4 = .ok (.iconst 0, 1) := by decide +kernel
theorem dX5_laysScore_5 : decode cX5_laysScore 5 = .ok (.goto 5, 3) := by decide +kernel
theorem dX5_laysScore_8 : decode cX5_laysScore 8 = .ok (.ldc 155, 2) := by decide +kernel
theorem dX5_laysScore_10 : decode cX5_laysScore 10 = .ok (.istore 4, 2) := by decide +kernel
theorem dX5_laysScore_12 : decode cX5_laysScore 12 = .ok (.iload_n 3, 1) := by decide +kernel
theorem dX5_laysScore_13 : decode cX5_laysScore 13 = .ok (.iconst 1, 1) := by decide +kernel
theorem dX5_laysScore_14 : decode cX5_laysScore 14 = .ok (.isub, 1) := by decide +kernel
theorem dX5_laysScore_15 : decode cX5_laysScore 15 = .ok (.istore 5, 2) := by decide +kernel
theorem dX5_laysScore_17 : decode cX5_laysScore 17 = .ok (.iload 5, 2) := by decide +kernel
theorem dX5_laysScore_19 : decode cX5_laysScore 19 = .ok (.ifCond .lt 99, 3) := by decide +kernel
theorem dX5_laysScore_22 : decode cX5_laysScore 22 = .ok (.aload_n 0, 1) := by decide +kernel
theorem dX5_laysScore_23 : decode cX5_laysScore 23 = .ok (.iload 5, 2) := by decide +kernel
theorem dX5_laysScore_25 : decode cX5_laysScore 25 = .ok (.iload_n 1, 1) := by decide +kernel
theorem dX5_laysScore_26 : decode cX5_laysScore 26 = .ok (.iload_n 2, 1) := by decide +kernel
theorem dX5_laysScore_27 : decode cX5_laysScore 27 = .ok (.invokevirtual 166, 3) := by decide +kernel
theorem dX5_laysScore_30 : decode cX5_laysScore 30 = .ok (.iconst 0, 1) := by decide +kernel
theorem dX5_laysScore_31 : decode cX5_laysScore 31 = .ok (.istore 6, 2) := by decide +kernel
theorem dX5_laysScore_33 : decode cX5_laysScore 33 = .ok (.iload 6, 2) := by decide +kernel
theorem dX5_laysScore_35 : decode cX5_laysScore 35 = .ok (.aload_n 0, 1) := by decide +kernel
theorem dX5_laysScore_36 : decode cX5_laysScore 36 = .ok (.getfield 44, 3) := by decide +kernel
theorem dX5_laysScore_39 : decode cX5_laysScore 39 = .ok (.iload 5, 2) := by decide +kernel
theorem dX5_laysScore_41 : decode cX5_laysScore 41 = .ok (.iaload, 1) := by decide +kernel
theorem dX5_laysScore_42 : decode cX5_laysScore 42 = .ok (.if_icmp .ge 70, 3) := by decide +kernel
theorem dX5_laysScore_45 : decode cX5_laysScore 45 = .ok (.aload_n 0, 1) := by decide +kernel
theorem dX5_laysScore_46 : decode cX5_laysScore 46 = .ok (.getfield 47, 3) := by decide +kernel
theorem dX5_laysScore_49 : decode cX5_laysScore 49 = .ok (.sipush 784, 3) := by decide +kernel
theorem dX5_laysScore_52 : decode cX5_laysScore 52 = .ok (.iload 5, 2) := by decide +kernel
theorem dX5_laysScore_54 : decode cX5_laysScore 54 = .ok (.imul, 1) := by decide +kernel
theorem dX5_laysScore_55 : decode cX5_laysScore 55 = .ok (.iload 6, 2) := by decide +kernel
theorem dX5_laysScore_57 : decode cX5_laysScore 57 = .ok (.iadd, 1) := by decide +kernel
theorem dX5_laysScore_58 : decode cX5_laysScore 58 = .ok (.aload_n 0, 1) := by decide +kernel
theorem dX5_laysScore_59 : decode cX5_laysScore 59 = .ok (.iload 5, 2) := by decide +kernel
theorem dX5_laysScore_61 : decode cX5_laysScore 61 = .ok (.aload_n 0, 1) := by decide +kernel
theorem dX5_laysScore_62 : decode cX5_laysScore 62 = .ok (.getfield 41, 3) := by decide +kernel
theorem dX5_laysScore_65 : decode cX5_laysScore 65 = .ok (.sipush 784, 3) := by decide +kernel
theorem dX5_laysScore_68 : decode cX5_laysScore 68 = .ok (.iload 5, 2) := by decide +kernel
theorem dX5_laysScore_70 : decode cX5_laysScore 70 = .ok (.imul, 1) := by decide +kernel
theorem dX5_laysScore_71 : decode cX5_laysScore 71 = .ok (.iload 6, 2) := by decide +kernel
theorem dX5_laysScore_73 : decode cX5_laysScore 73 = .ok (.iadd, 1) := by decide +kernel
theorem dX5_laysScore_74 : decode cX5_laysScore 74 = .ok (.iaload, 1) := by decide +kernel
theorem dX5_laysScore_75 : decode cX5_laysScore 75 = .ok (.iload_n 3, 1) := by decide +kernel
theorem dX5_laysScore_76 : decode cX5_laysScore 76 = .ok (.invokevirtual 177, 3) := by decide +kernel
theorem dX5_laysScore_79 : decode cX5_laysScore 79 = .ok (.iastore, 1) := by decide +kernel
theorem dX5_laysScore_80 : decode cX5_laysScore 80 = .ok (.iload 5, 2) := by decide +kernel
theorem dX5_laysScore_82 : decode cX5_laysScore 82 = .ok (.ifCond .ne 24, 3) := by decide +kernel
theorem dX5_laysScore_85 : decode cX5_laysScore 85 = .ok (.aload_n 0, 1) := by decide +kernel
theorem dX5_laysScore_86 : decode cX5_laysScore 86 = .ok (.getfield 47, 3) := by decide +kernel
theorem dX5_laysScore_89 : decode cX5_laysScore 89 = .ok (.iload 6, 2) := by decide +kernel
theorem dX5_laysScore_91 : decode cX5_laysScore 91 = .ok (.iaload, 1) := by decide +kernel
theorem dX5_laysScore_92 : decode cX5_laysScore 92 = .ok (.iload 4, 2) := by decide +kernel
theorem dX5_laysScore_94 : decode cX5_laysScore 94 = .ok (.if_icmp .ge 12, 3) := by decide +kernel
theorem dX5_laysScore_97 : decode cX5_laysScore 97 = .ok (.aload_n 0, 1) := by decide +kernel
theorem dX5_laysScore_98 : decode cX5_laysScore 98 = .ok (.getfield 47, 3) := by decide +kernel
theorem dX5_laysScore_101 : decode cX5_laysScore 101 = .ok (.iload 6, 2) := by decide +kernel
theorem dX5_laysScore_103 : decode cX5_laysScore 103 = .ok (.iaload, 1) := by decide +kernel
theorem dX5_laysScore_104 : decode cX5_laysScore 104 = .ok (.istore 4, 2) := by decide +kernel
theorem dX5_laysScore_106 : decode cX5_laysScore 106 = .ok (.iinc 6 1, 3) := by decide +kernel
theorem dX5_laysScore_109 : decode cX5_laysScore 109 = .ok (.goto (-76), 3) := by decide +kernel
theorem dX5_laysScore_112 : decode cX5_laysScore 112 = .ok (.iinc 5 (-1), 3) := by decide +kernel
theorem dX5_laysScore_115 : decode cX5_laysScore 115 = .ok (.goto (-98), 3) := by decide +kernel
theorem dX5_laysScore_118 : decode cX5_laysScore 118 = .ok (.iload 4, 2) := by decide +kernel
theorem dX5_laysScore_120 : decode cX5_laysScore 120 = .ok (.ireturn, 1) := by decide +kernel
theorem dX5_laysFirst_0 : decode cX5_laysFirst 0 = .ok (.aload_n 0, 1) := by decide +kernel
theorem dX5_laysFirst_1 : decode cX5_laysFirst 1 = .ok (.aload_n 0, 1) := by decide +kernel
theorem dX5_laysFirst_2 : decode cX5_laysFirst 2 = .ok (.aload_n 0, 1) := by decide +kernel
theorem dX5_laysFirst_3 : decode cX5_laysFirst 3 = .ok (.getfield 13, 3) := by decide +kernel
theorem dX5_laysFirst_6 : decode cX5_laysFirst 6 = .ok (.bipush 33, 2) := by decide +kernel
theorem dX5_laysFirst_8 : decode cX5_laysFirst 8 = .ok (.iaload, 1) := by decide +kernel
theorem dX5_laysFirst_9 : decode cX5_laysFirst 9 = .ok (.aload_n 0, 1) := by decide +kernel
theorem dX5_laysFirst_10 : decode cX5_laysFirst 10 = .ok (.getfield 13, 3) := by decide +kernel
theorem dX5_laysFirst_13 : decode cX5_laysFirst 13 = .ok (.bipush 35, 2) := by decide +kernel
theorem dX5_laysFirst_15 : decode cX5_laysFirst 15 = .ok (.iaload, 1) := by decide +kernel
theorem dX5_laysFirst_16 : decode cX5_laysFirst 16 = .ok (.aload_n 0, 1) := by decide +kernel
theorem dX5_laysFirst_17 : decode cX5_laysFirst 17 = .ok (.getfield 13, 3) := by decide +kernel
theorem dX5_laysFirst_20 : decode cX5_laysFirst 20 = .ok (.iconst 0, 1) := by decide +kernel
theorem dX5_laysFirst_21 : decode cX5_laysFirst 21 = .ok (.iaload, 1) := by decide +kernel
theorem dX5_laysFirst_22 : decode cX5_laysFirst 22 = .ok (.invokevirtual 180, 3) := by decide +kernel
theorem dX5_laysFirst_25 : decode cX5_laysFirst 25 = .ok (.putfield 183, 3) := by decide +kernel
theorem dX5_laysFirst_28 : decode cX5_laysFirst 28 = .ok (.aload_n 0, 1) := by decide +kernel
theorem dX5_laysFirst_29 : decode cX5_laysFirst 29 = .ok (.getfield 183, 3) := by decide +kernel
theorem dX5_laysFirst_32 : decode cX5_laysFirst 32 = .ok (.ldc 155, 2) := by decide +kernel
theorem dX5_laysFirst_34 : decode cX5_laysFirst 34 = .ok (.if_icmp .ne 5, 3) := by decide +kernel
theorem dX5_laysFirst_37 : decode cX5_laysFirst 37 = .ok (.iconst 0, 1) := by decide +kernel
theorem dX5_laysFirst_38 : decode cX5_laysFirst 38 = .ok (.ireturn, 1) := by decide +kernel
theorem dX5_laysFirst_39 : decode cX5_laysFirst 39 = .ok (.aload_n 0, 1) := by decide +kernel
theorem dX5_laysFirst_40 : decode cX5_laysFirst 40 = .ok (.getfield 183, 3) := by decide +kernel
theorem dX5_laysFirst_43 : decode cX5_laysFirst 43 = .ok (.istore_n 1, 1) := by decide +kernel
theorem dX5_laysFirst_44 : decode cX5_laysFirst 44 = .ok (.iconst 0, 1) := by decide +kernel
theorem dX5_laysFirst_45 : decode cX5_laysFirst 45 = .ok (.istore_n 2, 1) := by decide +kernel
theorem dX5_laysFirst_46 : decode cX5_laysFirst 46 = .ok (.iload_n 2, 1) := by decide +kernel
theorem dX5_laysFirst_47 : decode cX5_laysFirst 47 = .ok (.aload_n 0, 1) := by decide +kernel
theorem dX5_laysFirst_48 : decode cX5_laysFirst 48 = .ok (.getfield 13, 3) := by decide +kernel
theorem dX5_laysFirst_51 : decode cX5_laysFirst 51 = .ok (.iconst 0, 1) := by decide +kernel
theorem dX5_laysFirst_52 : decode cX5_laysFirst 52 = .ok (.iaload, 1) := by decide +kernel
theorem dX5_laysFirst_53 : decode cX5_laysFirst 53 = .ok (.if_icmp .ge 139, 3) := by decide +kernel
theorem dX5_laysFirst_56 : decode cX5_laysFirst 56 = .ok (.iconst 0, 1) := by decide +kernel
theorem dX5_laysFirst_57 : decode cX5_laysFirst 57 = .ok (.istore_n 3, 1) := by decide +kernel
theorem dX5_laysFirst_58 : decode cX5_laysFirst 58 = .ok (.iload_n 2, 1) := by decide +kernel
theorem dX5_laysFirst_59 : decode cX5_laysFirst 59 = .ok (.ifCond .ne 7, 3) := by decide +kernel
theorem dX5_laysFirst_62 : decode cX5_laysFirst 62 = .ok (.iconst 0, 1) := by decide +kernel
theorem dX5_laysFirst_63 : decode cX5_laysFirst 63 = .ok (.goto 28, 3) := by decide +kernel
theorem dX5_laysFirst_66 : decode cX5_laysFirst 66 = .ok (.aload_n 0, 1) := by decide +kernel
theorem dX5_laysFirst_67 : decode cX5_laysFirst 67 = .ok (.iload_n 2, 1) := by decide +kernel
theorem dX5_laysFirst_68 : decode cX5_laysFirst 68 = .ok (.iconst 1, 1) := by decide +kernel
theorem dX5_laysFirst_69 : decode cX5_laysFirst 69 = .ok (.isub, 1) := by decide +kernel
theorem dX5_laysFirst_70 : decode cX5_laysFirst 70 = .ok (.aload_n 0, 1) := by decide +kernel
theorem dX5_laysFirst_71 : decode cX5_laysFirst 71 = .ok (.getfield 50, 3) := by decide +kernel
theorem dX5_laysFirst_74 : decode cX5_laysFirst 74 = .ok (.iload_n 2, 1) := by decide +kernel
theorem dX5_laysFirst_75 : decode cX5_laysFirst 75 = .ok (.iconst 1, 1) := by decide +kernel
theorem dX5_laysFirst_76 : decode cX5_laysFirst 76 = .ok (.isub, 1) := by decide +kernel
theorem dX5_laysFirst_77 : decode cX5_laysFirst 77 = .ok (.iaload, 1) := by decide +kernel
theorem dX5_laysFirst_78 : decode cX5_laysFirst 78 = .ok (.aload_n 0, 1) := by decide +kernel
theorem dX5_laysFirst_79 : decode cX5_laysFirst 79 = .ok (.getfield 41, 3) := by decide +kernel
theorem dX5_laysFirst_82 : decode cX5_laysFirst 82 = .ok (.sipush 784, 3) := by decide +kernel
theorem dX5_laysFirst_85 : decode cX5_laysFirst 85 = .ok (.iload_n 2, 1) := by decide +kernel
theorem dX5_laysFirst_86 : decode cX5_laysFirst 86 = .ok (.imul, 1) := by decide +kernel
theorem dX5_laysFirst_87 : decode cX5_laysFirst 87 = .ok (.iaload, 1) := by decide +kernel
theorem dX5_laysFirst_88 : decode cX5_laysFirst 88 = .ok (.invokevirtual 174, 3) := by decide +kernel
theorem dX5_laysFirst_91 : decode cX5_laysFirst 91 = .ok (.istore 4, 2) := by decide +kernel
theorem dX5_laysFirst_93 : decode cX5_laysFirst 93 = .ok (.iload 4, 2) := by decide +kernel
theorem dX5_laysFirst_95 : decode cX5_laysFirst 95 = .ok (.aload_n 0, 1) := by decide +kernel
theorem dX5_laysFirst_96 : decode cX5_laysFirst 96 = .ok (.getfield 47, 3) := by decide +kernel
theorem dX5_laysFirst_99 : decode cX5_laysFirst 99 = .ok (.sipush 784, 3) := by decide +kernel
theorem dX5_laysFirst_102 : decode cX5_laysFirst 102 = .ok (.iload_n 2, 1) := by decide +kernel
theorem dX5_laysFirst_103 : decode cX5_laysFirst 103 = .ok (.imul, 1) := by decide +kernel
theorem dX5_laysFirst_104 : decode cX5_laysFirst 104 = .ok (.iload_n 3, 1) := by decide +kernel
theorem dX5_laysFirst_105 : decode cX5_laysFirst 105 = .ok (.iadd, 1) := by decide +kernel
theorem dX5_laysFirst_106 : decode cX5_laysFirst 106 = .ok (.iaload, 1) := by decide +kernel
theorem dX5_laysFirst_107 : decode cX5_laysFirst 107 = .ok (.iadd, 1) := by decide +kernel
theorem dX5_laysFirst_108 : decode cX5_laysFirst 108 = .ok (.iload_n 1, 1) := by decide +kernel
theorem dX5_laysFirst_109 : decode cX5_laysFirst 109 = .ok (.if_icmp .eq 46, 3) := by decide +kernel
theorem dX5_laysFirst_112 : decode cX5_laysFirst 112 = .ok (.iinc 3 1, 3) := by decide +kernel
theorem dX5_laysFirst_115 : decode cX5_laysFirst 115 = .ok (.iload_n 2, 1) := by decide +kernel
theorem dX5_laysFirst_116 : decode cX5_laysFirst 116 = .ok (.ifCond .ne 7, 3) := by decide +kernel
theorem dX5_laysFirst_119 : decode cX5_laysFirst 119 = .ok (.iconst 0, 1) := by decide +kernel
theorem dX5_laysFirst_120 : decode cX5_laysFirst 120 = .ok (.goto 30, 3) := by decide +kernel
theorem dX5_laysFirst_123 : decode cX5_laysFirst 123 = .ok (.aload_n 0, 1) := by decide +kernel
theorem dX5_laysFirst_124 : decode cX5_laysFirst 124 = .ok (.iload_n 2, 1) := by decide +kernel
theorem dX5_laysFirst_125 : decode cX5_laysFirst 125 = .ok (.iconst 1, 1) := by decide +kernel
theorem dX5_laysFirst_126 : decode cX5_laysFirst 126 = .ok (.isub, 1) := by decide +kernel
theorem dX5_laysFirst_127 : decode cX5_laysFirst 127 = .ok (.aload_n 0, 1) := by decide +kernel
theorem dX5_laysFirst_128 : decode cX5_laysFirst 128 = .ok (.getfield 50, 3) := by decide +kernel
theorem dX5_laysFirst_131 : decode cX5_laysFirst 131 = .ok (.iload_n 2, 1) := by decide +kernel
theorem dX5_laysFirst_132 : decode cX5_laysFirst 132 = .ok (.iconst 1, 1) := by decide +kernel
theorem dX5_laysFirst_133 : decode cX5_laysFirst 133 = .ok (.isub, 1) := by decide +kernel
theorem dX5_laysFirst_134 : decode cX5_laysFirst 134 = .ok (.iaload, 1) := by decide +kernel
theorem dX5_laysFirst_135 : decode cX5_laysFirst 135 = .ok (.aload_n 0, 1) := by decide +kernel
theorem dX5_laysFirst_136 : decode cX5_laysFirst 136 = .ok (.getfield 41, 3) := by decide +kernel
theorem dX5_laysFirst_139 : decode cX5_laysFirst 139 = .ok (.sipush 784, 3) := by decide +kernel
theorem dX5_laysFirst_142 : decode cX5_laysFirst 142 = .ok (.iload_n 2, 1) := by decide +kernel
theorem dX5_laysFirst_143 : decode cX5_laysFirst 143 = .ok (.imul, 1) := by decide +kernel
theorem dX5_laysFirst_144 : decode cX5_laysFirst 144 = .ok (.iload_n 3, 1) := by decide +kernel
theorem dX5_laysFirst_145 : decode cX5_laysFirst 145 = .ok (.iadd, 1) := by decide +kernel
theorem dX5_laysFirst_146 : decode cX5_laysFirst 146 = .ok (.iaload, 1) := by decide +kernel
theorem dX5_laysFirst_147 : decode cX5_laysFirst 147 = .ok (.invokevirtual 174, 3) := by decide +kernel
theorem dX5_laysFirst_150 : decode cX5_laysFirst 150 = .ok (.istore 4, 2) := by decide +kernel
theorem dX5_laysFirst_152 : decode cX5_laysFirst 152 = .ok (.goto (-59), 3) := by decide +kernel
theorem dX5_laysFirst_155 : decode cX5_laysFirst 155 = .ok (.aload_n 0, 1) := by decide +kernel
theorem dX5_laysFirst_156 : decode cX5_laysFirst 156 = .ok (.getfield 50, 3) := by decide +kernel
theorem dX5_laysFirst_159 : decode cX5_laysFirst 159 = .ok (.iload_n 2, 1) := by decide +kernel
theorem dX5_laysFirst_160 : decode cX5_laysFirst 160 = .ok (.aload_n 0, 1) := by decide +kernel
theorem dX5_laysFirst_161 : decode cX5_laysFirst 161 = .ok (.getfield 41, 3) := by decide +kernel
theorem dX5_laysFirst_164 : decode cX5_laysFirst 164 = .ok (.sipush 784, 3) := by decide +kernel
theorem dX5_laysFirst_167 : decode cX5_laysFirst 167 = .ok (.iload_n 2, 1) := by decide +kernel
theorem dX5_laysFirst_168 : decode cX5_laysFirst 168 = .ok (.imul, 1) := by decide +kernel
theorem dX5_laysFirst_169 : decode cX5_laysFirst 169 = .ok (.iload_n 3, 1) := by decide +kernel
theorem dX5_laysFirst_170 : decode cX5_laysFirst 170 = .ok (.iadd, 1) := by decide +kernel
theorem dX5_laysFirst_171 : decode cX5_laysFirst 171 = .ok (.iaload, 1) := by decide +kernel
theorem dX5_laysFirst_172 : decode cX5_laysFirst 172 = .ok (.iastore, 1) := by decide +kernel
theorem dX5_laysFirst_173 : decode cX5_laysFirst 173 = .ok (.aload_n 0, 1) := by decide +kernel
theorem dX5_laysFirst_174 : decode cX5_laysFirst 174 = .ok (.getfield 47, 3) := by decide +kernel
theorem dX5_laysFirst_177 : decode cX5_laysFirst 177 = .ok (.sipush 784, 3) := by decide +kernel
theorem dX5_laysFirst_180 : decode cX5_laysFirst 180 = .ok (.iload_n 2, 1) := by decide +kernel
theorem dX5_laysFirst_181 : decode cX5_laysFirst 181 = .ok (.imul, 1) := by decide +kernel
theorem dX5_laysFirst_182 : decode cX5_laysFirst 182 = .ok (.iload_n 3, 1) := by decide +kernel
theorem dX5_laysFirst_183 : decode cX5_laysFirst 183 = .ok (.iadd, 1) := by decide +kernel
theorem dX5_laysFirst_184 : decode cX5_laysFirst 184 = .ok (.iaload, 1) := by decide +kernel
theorem dX5_laysFirst_185 : decode cX5_laysFirst 185 = .ok (.istore_n 1, 1) := by decide +kernel
theorem dX5_laysFirst_186 : decode cX5_laysFirst 186 = .ok (.iinc 2 1, 3) := by decide +kernel
theorem dX5_laysFirst_189 : decode cX5_laysFirst 189 = .ok (.goto (-143), 3) := by decide +kernel
theorem dX5_laysFirst_192 : decode cX5_laysFirst 192 = .ok (.iconst 1, 1) := by decide +kernel
theorem dX5_laysFirst_193 : decode cX5_laysFirst 193 = .ok (.ireturn, 1) := by decide +kernel
theorem dX5_playing_0 : decode cX5_playing 0 = .ok (.iconst 0, 1) := by decide +kernel
theorem dX5_playing_1 : decode cX5_playing 1 = .ok (.istore_n 3, 1) := by decide +kernel
theorem dX5_playing_2 : decode cX5_playing 2 = .ok (.iconst 0, 1) := by decide +kernel
theorem dX5_playing_3 : decode cX5_playing 3 = .ok (.istore 4, 2) := by decide +kernel
theorem dX5_playing_5 : decode cX5_playing 5 = .ok (.iload 4, 2) := by decide +kernel
theorem dX5_playing_7 : decode cX5_playing 7 = .ok (.aload_n 0, 1) := by decide +kernel
theorem dX5_playing_8 : decode cX5_playing 8 = .ok (.getfield 63, 3) := by decide +kernel
theorem dX5_playing_11 : decode cX5_playing 11 = .ok (.if_icmp .ge 27, 3) := by decide +kernel
theorem dX5_playing_14 : decode cX5_playing 14 = .ok (.iload_n 3, 1) := by decide +kernel
theorem dX5_playing_15 : decode cX5_playing 15 = .ok (.aload_n 0, 1) := by decide +kernel
theorem dX5_playing_16 : decode cX5_playing 16 = .ok (.getfield 50, 3) := by decide +kernel
theorem dX5_playing_19 : decode cX5_playing 19 = .ok (.iload_n 1, 1) := by decide +kernel
theorem dX5_playing_20 : decode cX5_playing 20 = .ok (.iaload, 1) := by decide +kernel
theorem dX5_playing_21 : decode cX5_playing 21 = .ok (.iload 4, 2) := by decide +kernel
theorem dX5_playing_23 : decode cX5_playing 23 = .ok (.invokestatic 152, 3) := by decide +kernel
theorem dX5_playing_26 : decode cX5_playing 26 = .ok (.iload_n 2, 1) := by decide +kernel
theorem dX5_playing_27 : decode cX5_playing 27 = .ok (.ishr, 1) := by decide +kernel
theorem dX5_playing_28 : decode cX5_playing 28 = .ok (.iconst 1, 1) := by decide +kernel
theorem dX5_playing_29 : decode cX5_playing 29 = .ok (.iand, 1) := by decide +kernel
theorem dX5_playing_30 : decode cX5_playing 30 = .ok (.iadd, 1) := by decide +kernel
theorem dX5_playing_31 : decode cX5_playing 31 = .ok (.istore_n 3, 1) := by decide +kernel
theorem dX5_playing_32 : decode cX5_playing 32 = .ok (.iinc 4 1, 3) := by decide +kernel
theorem dX5_playing_35 : decode cX5_playing 35 = .ok (.goto (-30), 3) := by decide +kernel
theorem dX5_playing_38 : decode cX5_playing 38 = .ok (.iload_n 3, 1) := by decide +kernel
theorem dX5_playing_39 : decode cX5_playing 39 = .ok (.ireturn, 1) := by decide +kernel
theorem dX5_score_0 : decode cX5_score 0 = .ok (.iload_n 1, 1) := by decide +kernel
theorem dX5_score_1 : decode cX5_score 1 = .ok (.iconst 0, 1) := by decide +kernel
theorem dX5_score_2 : decode cX5_score 2 = .ok (.iconst 2, 1) := by decide +kernel
theorem dX5_score_3 : decode cX5_score 3 = .ok (.invokestatic 72, 3) := by decide +kernel
theorem dX5_score_6 : decode cX5_score 6 = .ok (.ifCond .ne 5, 3) := by decide +kernel
theorem dX5_score_9 : decode cX5_score 9 = .ok (.iconst (-1), 1) := by decide +kernel
theorem dX5_score_10 : decode cX5_score 10 = .ok (.ireturn, 1) := by decide +kernel
theorem dX5_score_11 : decode cX5_score 11 = .ok (.aload_n 0, 1) := by decide +kernel
theorem dX5_score_12 : decode cX5_score 12 = .ok (.invokevirtual 186, 3) := by decide +kernel
theorem dX5_score_15 : decode cX5_score 15 = .ok (.ifCond .ne 6, 3) := by decide +kernel
theorem dX5_score_18 : decode cX5_score 18 = .ok (.bipush (-9), 2) := by decide +kernel
theorem dX5_score_20 : decode cX5_score 20 = .ok (.ireturn, 1) := by decide +kernel
theorem dX5_score_21 : decode cX5_score 21 = .ok (.iconst 0, 1) := by decide +kernel
theorem dX5_score_22 : decode cX5_score 22 = .ok (.istore_n 2, 1) := by decide +kernel
theorem dX5_score_23 : decode cX5_score 23 = .ok (.iconst 0, 1) := by decide +kernel
theorem dX5_score_24 : decode cX5_score 24 = .ok (.istore_n 3, 1) := by decide +kernel
theorem dX5_score_25 : decode cX5_score 25 = .ok (.iconst 0, 1) := by decide +kernel
theorem dX5_score_26 : decode cX5_score 26 = .ok (.istore 4, 2) := by decide +kernel
theorem dX5_score_28 : decode cX5_score 28 = .ok (.iload 4, 2) := by decide +kernel
theorem dX5_score_30 : decode cX5_score 30 = .ok (.aload_n 0, 1) := by decide +kernel
theorem dX5_score_31 : decode cX5_score 31 = .ok (.getfield 13, 3) := by decide +kernel
theorem dX5_score_34 : decode cX5_score 34 = .ok (.iconst 0, 1) := by decide +kernel
theorem dX5_score_35 : decode cX5_score 35 = .ok (.iaload, 1) := by decide +kernel
theorem dX5_score_36 : decode cX5_score 36 = .ok (.if_icmp .ge 90, 3) := by decide +kernel
theorem dX5_score_39 : decode cX5_score 39 = .ok (.iconst 0, 1) := by decide +kernel
theorem dX5_score_40 : decode cX5_score 40 = .ok (.istore 5, 2) := by decide +kernel
theorem dX5_score_42 : decode cX5_score 42 = .ok (.iload 5, 2) := by decide +kernel
theorem dX5_score_44 : decode cX5_score 44 = .ok (.aload_n 0, 1) := by decide +kernel
theorem dX5_score_45 : decode cX5_score 45 = .ok (.getfield 63, 3) := by decide +kernel
theorem dX5_score_48 : decode cX5_score 48 = .ok (.if_icmp .ge 32, 3) := by decide +kernel
theorem dX5_score_51 : decode cX5_score 51 = .ok (.iload_n 2, 1) := by decide +kernel
theorem dX5_score_52 : decode cX5_score 52 = .ok (.aload_n 0, 1) := by decide +kernel
theorem dX5_score_53 : decode cX5_score 53 = .ok (.getfield 50, 3) := by decide +kernel
theorem dX5_score_56 : decode cX5_score 56 = .ok (.iload 4, 2) := by decide +kernel
theorem dX5_score_58 : decode cX5_score 58 = .ok (.iaload, 1) := by decide +kernel
theorem dX5_score_59 : decode cX5_score 59 = .ok (.iload 5, 2) := by decide +kernel
theorem dX5_score_61 : decode cX5_score 61 = .ok (.invokestatic 152, 3) := by decide +kernel
theorem dX5_score_64 : decode cX5_score 64 = .ok (.ifCond .ne 7, 3) := by decide +kernel
theorem dX5_score_67 : decode cX5_score 67 = .ok (.iconst 0, 1) := by decide +kernel
theorem dX5_score_68 : decode cX5_score 68 = .ok (.goto 4, 3) := by decide +kernel
theorem dX5_score_71 : decode cX5_score 71 = .ok (.iconst 1, 1) := by decide +kernel
theorem dX5_score_72 : decode cX5_score 72 = .ok (.iadd, 1) := by decide +kernel
theorem dX5_score_73 : decode cX5_score 73 = .ok (.istore_n 2, 1) := by decide +kernel
theorem dX5_score_74 : decode cX5_score 74 = .ok (.iinc 5 1, 3) := by decide +kernel
theorem dX5_score_77 : decode cX5_score 77 = .ok (.goto (-35), 3) := by decide +kernel
theorem dX5_score_80 : decode cX5_score 80 = .ok (.iconst 0, 1) := by decide +kernel
theorem dX5_score_81 : decode cX5_score 81 = .ok (.istore 5, 2) := by decide +kernel
theorem dX5_score_83 : decode cX5_score 83 = .ok (.iload 5, 2) := by decide +kernel
theorem dX5_score_85 : decode cX5_score 85 = .ok (.aload_n 0, 1) := by decide +kernel
theorem dX5_score_86 : decode cX5_score 86 = .ok (.iload 4, 2) := by decide +kernel
theorem dX5_score_88 : decode cX5_score 88 = .ok (.invokevirtual 127, 3) := by decide +kernel
theorem dX5_score_91 : decode cX5_score 91 = .ok (.if_icmp .ge 29, 3) := by decide +kernel
theorem dX5_score_94 : decode cX5_score 94 = .ok (.iload_n 3, 1) := by decide +kernel
theorem dX5_score_95 : decode cX5_score 95 = .ok (.aload_n 0, 1) := by decide +kernel
theorem dX5_score_96 : decode cX5_score 96 = .ok (.iload 4, 2) := by decide +kernel
theorem dX5_score_98 : decode cX5_score 98 = .ok (.iload 5, 2) := by decide +kernel
theorem dX5_score_100 : decode cX5_score 100 = .ok (.invokevirtual 189, 3) := by decide +kernel
theorem dX5_score_103 : decode cX5_score 103 = .ok (.iconst 1, 1) := by decide +kernel
theorem dX5_score_104 : decode cX5_score 104 = .ok (.if_icmp .le 7, 3) := by decide +kernel
theorem dX5_score_107 : decode cX5_score 107 = .ok (.iconst 1, 1) := by decide +kernel
theorem dX5_score_108 : decode cX5_score 108 = .ok (.goto 4, 3) := by decide +kernel
theorem dX5_score_111 : decode cX5_score 111 = .ok (.iconst 0, 1) := by decide +kernel
theorem dX5_score_112 : decode cX5_score 112 = .ok (.iadd, 1) := by decide +kernel
theorem dX5_score_113 : decode cX5_score 113 = .ok (.istore_n 3, 1) := by decide +kernel
theorem dX5_score_114 : decode cX5_score 114 = .ok (.iinc 5 1, 3) := by decide +kernel
theorem dX5_score_117 : decode cX5_score 117 = .ok (.goto (-34), 3) := by decide +kernel
theorem dX5_score_120 : decode cX5_score 120 = .ok (.iinc 4 1, 3) := by decide +kernel
theorem dX5_score_123 : decode cX5_score 123 = .ok (.goto (-95), 3) := by decide +kernel
theorem dX5_score_126 : decode cX5_score 126 = .ok (.iload_n 1, 1) := by decide +kernel
theorem dX5_score_127 : decode cX5_score 127 = .ok (.ifCond .ne 10, 3) := by decide +kernel
theorem dX5_score_130 : decode cX5_score 130 = .ok (.aload_n 0, 1) := by decide +kernel
theorem dX5_score_131 : decode cX5_score 131 = .ok (.getfield 183, 3) := by decide +kernel
theorem dX5_score_134 : decode cX5_score 134 = .ok (.goto 13, 3) := by decide +kernel
theorem dX5_score_137 : decode cX5_score 137 = .ok (.iload_n 1, 1) := by decide +kernel
theorem dX5_score_138 : decode cX5_score 138 = .ok (.iconst 1, 1) := by decide +kernel
theorem dX5_score_139 : decode cX5_score 139 = .ok (.if_icmp .ne 7, 3) := by decide +kernel
theorem dX5_score_142 : decode cX5_score 142 = .ok (.iload_n 2, 1) := by decide +kernel
theorem dX5_score_143 : decode cX5_score 143 = .ok (.goto 4, 3) := by decide +kernel
theorem dX5_score_146 : decode cX5_score 146 = .ok (.iload_n 3, 1) := by decide +kernel
theorem dX5_score_147 : decode cX5_score 147 = .ok (.ireturn, 1) := by decide +kernel
theorem dX5_hand_0 : decode cX5_hand 0 = .ok (.aload_n 0, 1) := by decide +kernel
theorem dX5_hand_1 : decode cX5_hand 1 = .ok (.iload_n 1, 1) := by decide +kernel
theorem dX5_hand_2 : decode cX5_hand 2 = .ok (.invokevirtual 124, 3) := by decide +kernel
theorem dX5_hand_5 : decode cX5_hand 5 = .ok (.ifCond .eq 11, 3) := by decide +kernel
theorem dX5_hand_8 : decode cX5_hand 8 = .ok (.aload_n 0, 1) := by decide +kernel
theorem dX5_hand_9 : decode cX5_hand 9 = .ok (.iload_n 2, 1) := by decide +kernel
theorem dX5_hand_10 : decode cX5_hand 10 = .ok (.invokevirtual 114, 3) := by decide +kernel
theorem dX5_hand_13 : decode cX5_hand 13 = .ok (.ifCond .ne 5, 3) := by decide +kernel
theorem dX5_hand_16 : decode cX5_hand 16 = .ok (.iconst (-1), 1) := by decide +kernel
theorem dX5_hand_17 : decode cX5_hand 17 = .ok (.ireturn, 1) := by decide +kernel
theorem dX5_hand_18 : decode cX5_hand 18 = .ok (.aload_n 0, 1) := by decide +kernel
theorem dX5_hand_19 : decode cX5_hand 19 = .ok (.invokevirtual 186, 3) := by decide +kernel
theorem dX5_hand_22 : decode cX5_hand 22 = .ok (.ifCond .eq 16, 3) := by decide +kernel
theorem dX5_hand_25 : decode cX5_hand 25 = .ok (.aload_n 0, 1) := by decide +kernel
theorem dX5_hand_26 : decode cX5_hand 26 = .ok (.getfield 50, 3) := by decide +kernel
theorem dX5_hand_29 : decode cX5_hand 29 = .ok (.iload_n 1, 1) := by decide +kernel
theorem dX5_hand_30 : decode cX5_hand 30 = .ok (.iaload, 1) := by decide +kernel
theorem dX5_hand_31 : decode cX5_hand 31 = .ok (.iload_n 2, 1) := by decide +kernel
theorem dX5_hand_32 : decode cX5_hand 32 = .ok (.invokestatic 152, 3) := by decide +kernel
theorem dX5_hand_35 : decode cX5_hand 35 = .ok (.goto 5, 3) := by decide +kernel
theorem dX5_hand_38 : decode cX5_hand 38 = .ok (.bipush (-9), 2) := by decide +kernel
theorem dX5_hand_40 : decode cX5_hand 40 = .ok (.ireturn, 1) := by decide +kernel
theorem dX5_loud_0 : decode cX5_loud 0 = .ok (.aload_n 0, 1) := by decide +kernel
theorem dX5_loud_1 : decode cX5_loud 1 = .ok (.iload_n 1, 1) := by decide +kernel
theorem dX5_loud_2 : decode cX5_loud 2 = .ok (.invokevirtual 124, 3) := by decide +kernel
theorem dX5_loud_5 : decode cX5_loud 5 = .ok (.ifCond .eq 18, 3) := by decide +kernel
theorem dX5_loud_8 : decode cX5_loud 8 = .ok (.iload_n 2, 1) := by decide +kernel
theorem dX5_loud_9 : decode cX5_loud 9 = .ok (.iconst 0, 1) := by decide +kernel
theorem dX5_loud_10 : decode cX5_loud 10 = .ok (.aload_n 0, 1) := by decide +kernel
theorem dX5_loud_11 : decode cX5_loud 11 = .ok (.iload_n 1, 1) := by decide +kernel
theorem dX5_loud_12 : decode cX5_loud 12 = .ok (.invokevirtual 127, 3) := by decide +kernel
theorem dX5_loud_15 : decode cX5_loud 15 = .ok (.iconst 1, 1) := by decide +kernel
theorem dX5_loud_16 : decode cX5_loud 16 = .ok (.isub, 1) := by decide +kernel
theorem dX5_loud_17 : decode cX5_loud 17 = .ok (.invokestatic 72, 3) := by decide +kernel
theorem dX5_loud_20 : decode cX5_loud 20 = .ok (.ifCond .ne 5, 3) := by decide +kernel
theorem dX5_loud_23 : decode cX5_loud 23 = .ok (.iconst (-1), 1) := by decide +kernel
theorem dX5_loud_24 : decode cX5_loud 24 = .ok (.ireturn, 1) := by decide +kernel
theorem dX5_loud_25 : decode cX5_loud 25 = .ok (.aload_n 0, 1) := by decide +kernel
theorem dX5_loud_26 : decode cX5_loud 26 = .ok (.invokevirtual 186, 3) := by decide +kernel
theorem dX5_loud_29 : decode cX5_loud 29 = .ok (.ifCond .eq 17, 3) := by decide +kernel
theorem dX5_loud_32 : decode cX5_loud 32 = .ok (.aload_n 0, 1) := by decide +kernel
theorem dX5_loud_33 : decode cX5_loud 33 = .ok (.aload_n 0, 1) := by decide +kernel
theorem dX5_loud_34 : decode cX5_loud 34 = .ok (.getfield 50, 3) := by decide +kernel
theorem dX5_loud_37 : decode cX5_loud 37 = .ok (.iload_n 1, 1) := by decide +kernel
theorem dX5_loud_38 : decode cX5_loud 38 = .ok (.iaload, 1) := by decide +kernel
theorem dX5_loud_39 : decode cX5_loud 39 = .ok (.iload_n 2, 1) := by decide +kernel
theorem dX5_loud_40 : decode cX5_loud 40 = .ok (.invokevirtual 156, 3) := by decide +kernel
theorem dX5_loud_43 : decode cX5_loud 43 = .ok (.goto 5, 3) := by decide +kernel
theorem dX5_loud_46 : decode cX5_loud 46 = .ok (.bipush (-9), 2) := by decide +kernel
theorem dX5_loud_48 : decode cX5_loud 48 = .ok (.ireturn, 1) := by decide +kernel
theorem dX5_couldRest_0 : decode cX5_couldRest 0 = .ok (.aload_n 0, 1) := by decide +kernel
theorem dX5_couldRest_1 : decode cX5_couldRest 1 = .ok (.iload_n 1, 1) := by decide +kernel
theorem dX5_couldRest_2 : decode cX5_couldRest 2 = .ok (.invokevirtual 124, 3) := by decide +kernel
theorem dX5_couldRest_5 : decode cX5_couldRest 5 = .ok (.ifCond .ne 5, 3) := by decide +kernel
theorem dX5_couldRest_8 : decode cX5_couldRest 8 = .ok (.iconst (-1), 1) := by decide +kernel
theorem dX5_couldRest_9 : decode cX5_couldRest 9 = .ok (.ireturn, 1) := by decide +kernel
theorem dX5_couldRest_10 : decode cX5_couldRest 10 = .ok (.aload_n 0, 1) := by decide +kernel
theorem dX5_couldRest_11 : decode cX5_couldRest 11 = .ok (.invokevirtual 186, 3) := by decide +kernel
theorem dX5_couldRest_14 : decode cX5_couldRest 14 = .ok (.ifCond .ne 6, 3) := by decide +kernel
theorem dX5_couldRest_17 : decode cX5_couldRest 17 = .ok (.bipush (-9), 2) := by decide +kernel
theorem dX5_couldRest_19 : decode cX5_couldRest 19 = .ok (.ireturn, 1) := by decide +kernel
theorem dX5_couldRest_20 : decode cX5_couldRest 20 = .ok (.iconst 0, 1) := by decide +kernel
theorem dX5_couldRest_21 : decode cX5_couldRest 21 = .ok (.istore_n 2, 1) := by decide +kernel
theorem dX5_couldRest_22 : decode cX5_couldRest 22 = .ok (.iconst 0, 1) := by decide +kernel
theorem dX5_couldRest_23 : decode cX5_couldRest 23 = .ok (.istore_n 3, 1) := by decide +kernel
theorem dX5_couldRest_24 : decode cX5_couldRest 24 = .ok (.iload_n 3, 1) := by decide +kernel
theorem dX5_couldRest_25 : decode cX5_couldRest 25 = .ok (.aload_n 0, 1) := by decide +kernel
theorem dX5_couldRest_26 : decode cX5_couldRest 26 = .ok (.getfield 63, 3) := by decide +kernel
theorem dX5_couldRest_29 : decode cX5_couldRest 29 = .ok (.if_icmp .ge 66, 3) := by decide +kernel
theorem dX5_couldRest_32 : decode cX5_couldRest 32 = .ok (.aload_n 0, 1) := by decide +kernel
theorem dX5_couldRest_33 : decode cX5_couldRest 33 = .ok (.getfield 50, 3) := by decide +kernel
theorem dX5_couldRest_36 : decode cX5_couldRest 36 = .ok (.iload_n 1, 1) := by decide +kernel
theorem dX5_couldRest_37 : decode cX5_couldRest 37 = .ok (.iaload, 1) := by decide +kernel
theorem dX5_couldRest_38 : decode cX5_couldRest 38 = .ok (.bipush 7, 2) := by decide +kernel
theorem dX5_couldRest_40 : decode cX5_couldRest 40 = .ok (.iconst 3, 1) := by decide +kernel
theorem dX5_couldRest_41 : decode cX5_couldRest 41 = .ok (.iconst 3, 1) := by decide +kernel
theorem dX5_couldRest_42 : decode cX5_couldRest 42 = .ok (.iload_n 3, 1) := by decide +kernel
theorem dX5_couldRest_43 : decode cX5_couldRest 43 = .ok (.isub, 1) := by decide +kernel
theorem dX5_couldRest_44 : decode cX5_couldRest 44 = .ok (.imul, 1) := by decide +kernel
theorem dX5_couldRest_45 : decode cX5_couldRest 45 = .ok (.ishl, 1) := by decide +kernel
theorem dX5_couldRest_46 : decode cX5_couldRest 46 = .ok (.iconst (-1), 1) := by decide +kernel
theorem dX5_couldRest_47 : decode cX5_couldRest 47 = .ok (.ixor, 1) := by decide +kernel
theorem dX5_couldRest_48 : decode cX5_couldRest 48 = .ok (.iand, 1) := by decide +kernel
theorem dX5_couldRest_49 : decode cX5_couldRest 49 = .ok (.istore 4, 2) := by decide +kernel
theorem dX5_couldRest_51 : decode cX5_couldRest 51 = .ok (.iload_n 2, 1) := by decide +kernel
theorem dX5_couldRest_52 : decode cX5_couldRest 52 = .ok (.iload 4, 2) := by decide +kernel
theorem dX5_couldRest_54 : decode cX5_couldRest 54 = .ok (.aload_n 0, 1) := by decide +kernel
theorem dX5_couldRest_55 : decode cX5_couldRest 55 = .ok (.getfield 50, 3) := by decide +kernel
theorem dX5_couldRest_58 : decode cX5_couldRest 58 = .ok (.iload_n 1, 1) := by decide +kernel
theorem dX5_couldRest_59 : decode cX5_couldRest 59 = .ok (.iaload, 1) := by decide +kernel
theorem dX5_couldRest_60 : decode cX5_couldRest 60 = .ok (.if_icmp .eq 26, 3) := by decide +kernel
theorem dX5_couldRest_63 : decode cX5_couldRest 63 = .ok (.aload_n 0, 1) := by decide +kernel
theorem dX5_couldRest_64 : decode cX5_couldRest 64 = .ok (.iload_n 1, 1) := by decide +kernel
theorem dX5_couldRest_65 : decode cX5_couldRest 65 = .ok (.iload 4, 2) := by decide +kernel
theorem dX5_couldRest_67 : decode cX5_couldRest 67 = .ok (.aload_n 0, 1) := by decide +kernel
theorem dX5_couldRest_68 : decode cX5_couldRest 68 = .ok (.getfield 13, 3) := by decide +kernel
theorem dX5_couldRest_71 : decode cX5_couldRest 71 = .ok (.bipush 35, 2) := by decide +kernel
theorem dX5_couldRest_73 : decode cX5_couldRest 73 = .ok (.iaload, 1) := by decide +kernel
theorem dX5_couldRest_74 : decode cX5_couldRest 74 = .ok (.invokevirtual 159, 3) := by decide +kernel
theorem dX5_couldRest_77 : decode cX5_couldRest 77 = .ok (.ifCond .eq 9, 3) := by decide +kernel
theorem dX5_couldRest_80 : decode cX5_couldRest 80 = .ok (.iconst 1, 1) := by decide +kernel
theorem dX5_couldRest_81 : decode cX5_couldRest 81 = .ok (.iload_n 3, 1) := by decide +kernel
theorem dX5_couldRest_82 : decode cX5_couldRest 82 = .ok (.ishl, 1) := by decide +kernel
theorem dX5_couldRest_83 : decode cX5_couldRest 83 = .ok (.goto 4, 3) := by decide +kernel
theorem dX5_couldRest_86 : decode cX5_couldRest 86 = .ok (.iconst 0, 1) := by decide +kernel
theorem dX5_couldRest_87 : decode cX5_couldRest 87 = .ok (.ior, 1) := by decide +kernel
theorem dX5_couldRest_88 : decode cX5_couldRest 88 = .ok (.istore_n 2, 1) := by decide +kernel
theorem dX5_couldRest_89 : decode cX5_couldRest 89 = .ok (.iinc 3 1, 3) := by decide +kernel
theorem dX5_couldRest_92 : decode cX5_couldRest 92 = .ok (.goto (-68), 3) := by decide +kernel
theorem dX5_couldRest_95 : decode cX5_couldRest 95 = .ok (.iload_n 2, 1) := by decide +kernel
theorem dX5_couldRest_96 : decode cX5_couldRest 96 = .ok (.ireturn, 1) := by decide +kernel
theorem dX5_move_0 : decode cX5_move 0 = .ok (.aload_n 0, 1) := by decide +kernel
theorem dX5_move_1 : decode cX5_move 1 = .ok (.iload_n 1, 1) := by decide +kernel
theorem dX5_move_2 : decode cX5_move 2 = .ok (.invokevirtual 124, 3) := by decide +kernel
theorem dX5_move_5 : decode cX5_move 5 = .ok (.ifCond .eq 21, 3) := by decide +kernel
theorem dX5_move_8 : decode cX5_move 8 = .ok (.aload_n 0, 1) := by decide +kernel
theorem dX5_move_9 : decode cX5_move 9 = .ok (.iload_n 1, 1) := by decide +kernel
theorem dX5_move_10 : decode cX5_move 10 = .ok (.iconst 1, 1) := by decide +kernel
theorem dX5_move_11 : decode cX5_move 11 = .ok (.iadd, 1) := by decide +kernel
theorem dX5_move_12 : decode cX5_move 12 = .ok (.invokevirtual 124, 3) := by decide +kernel
theorem dX5_move_15 : decode cX5_move 15 = .ok (.ifCond .eq 11, 3) := by decide +kernel
theorem dX5_move_18 : decode cX5_move 18 = .ok (.aload_n 0, 1) := by decide +kernel
theorem dX5_move_19 : decode cX5_move 19 = .ok (.iload_n 2, 1) := by decide +kernel
theorem dX5_move_20 : decode cX5_move 20 = .ok (.invokevirtual 114, 3) := by decide +kernel
theorem dX5_move_23 : decode cX5_move 23 = .ok (.ifCond .ne 5, 3) := by decide +kernel
theorem dX5_move_26 : decode cX5_move 26 = .ok (.iconst (-1), 1) := by decide +kernel
theorem dX5_move_27 : decode cX5_move 27 = .ok (.ireturn, 1) := by decide +kernel
theorem dX5_move_28 : decode cX5_move 28 = .ok (.aload_n 0, 1) := by decide +kernel
theorem dX5_move_29 : decode cX5_move 29 = .ok (.invokevirtual 186, 3) := by decide +kernel
theorem dX5_move_32 : decode cX5_move 32 = .ok (.ifCond .eq 33, 3) := by decide +kernel
theorem dX5_move_35 : decode cX5_move 35 = .ok (.aload_n 0, 1) := by decide +kernel
theorem dX5_move_36 : decode cX5_move 36 = .ok (.iload_n 1, 1) := by decide +kernel
theorem dX5_move_37 : decode cX5_move 37 = .ok (.aload_n 0, 1) := by decide +kernel
theorem dX5_move_38 : decode cX5_move 38 = .ok (.getfield 50, 3) := by decide +kernel
theorem dX5_move_41 : decode cX5_move 41 = .ok (.iload_n 1, 1) := by decide +kernel
theorem dX5_move_42 : decode cX5_move 42 = .ok (.iaload, 1) := by decide +kernel
theorem dX5_move_43 : decode cX5_move 43 = .ok (.iload_n 2, 1) := by decide +kernel
theorem dX5_move_44 : decode cX5_move 44 = .ok (.invokestatic 152, 3) := by decide +kernel
theorem dX5_move_47 : decode cX5_move 47 = .ok (.aload_n 0, 1) := by decide +kernel
theorem dX5_move_48 : decode cX5_move 48 = .ok (.getfield 50, 3) := by decide +kernel
theorem dX5_move_51 : decode cX5_move 51 = .ok (.iload_n 1, 1) := by decide +kernel
theorem dX5_move_52 : decode cX5_move 52 = .ok (.iconst 1, 1) := by decide +kernel
theorem dX5_move_53 : decode cX5_move 53 = .ok (.iadd, 1) := by decide +kernel
theorem dX5_move_54 : decode cX5_move 54 = .ok (.iaload, 1) := by decide +kernel
theorem dX5_move_55 : decode cX5_move 55 = .ok (.iload_n 2, 1) := by decide +kernel
theorem dX5_move_56 : decode cX5_move 56 = .ok (.invokestatic 152, 3) := by decide +kernel
theorem dX5_move_59 : decode cX5_move 59 = .ok (.invokevirtual 170, 3) := by decide +kernel
theorem dX5_move_62 : decode cX5_move 62 = .ok (.goto 5, 3) := by decide +kernel
theorem dX5_move_65 : decode cX5_move 65 = .ok (.bipush (-9), 2) := by decide +kernel
theorem dX5_move_67 : decode cX5_move 67 = .ok (.ireturn, 1) := by decide +kernel
theorem dX5_reach_0 : decode cX5_reach 0 = .ok (.aload_n 0, 1) := by decide +kernel
theorem dX5_reach_1 : decode cX5_reach 1 = .ok (.getfield 13, 3) := by decide +kernel
theorem dX5_reach_4 : decode cX5_reach 4 = .ok (.iconst 0, 1) := by decide +kernel
theorem dX5_reach_5 : decode cX5_reach 5 = .ok (.iaload, 1) := by decide +kernel
theorem dX5_reach_6 : decode cX5_reach 6 = .ok (.istore_n 1, 1) := by decide +kernel
theorem dX5_reach_7 : decode cX5_reach 7 = .ok (.aload_n 0, 1) := by decide +kernel
theorem dX5_reach_8 : decode cX5_reach 8 = .ok (.aload_n 0, 1) := by decide +kernel
theorem dX5_reach_9 : decode cX5_reach 9 = .ok (.getfield 13, 3) := by decide +kernel
theorem dX5_reach_12 : decode cX5_reach 12 = .ok (.bipush 33, 2) := by decide +kernel
theorem dX5_reach_14 : decode cX5_reach 14 = .ok (.iaload, 1) := by decide +kernel
theorem dX5_reach_15 : decode cX5_reach 15 = .ok (.aload_n 0, 1) := by decide +kernel
theorem dX5_reach_16 : decode cX5_reach 16 = .ok (.getfield 13, 3) := by decide +kernel
theorem dX5_reach_19 : decode cX5_reach 19 = .ok (.bipush 35, 2) := by decide +kernel
theorem dX5_reach_21 : decode cX5_reach 21 = .ok (.iaload, 1) := by decide +kernel
theorem dX5_reach_22 : decode cX5_reach 22 = .ok (.iload_n 1, 1) := by decide +kernel
theorem dX5_reach_23 : decode cX5_reach 23 = .ok (.invokevirtual 180, 3) := by decide +kernel
theorem dX5_reach_26 : decode cX5_reach 26 = .ok (.ldc 155, 2) := by decide +kernel
theorem dX5_reach_28 : decode cX5_reach 28 = .ok (.if_icmp .ne 9, 3) := by decide +kernel
theorem dX5_reach_31 : decode cX5_reach 31 = .ok (.iinc 1 (-1), 3) := by decide +kernel
theorem dX5_reach_34 : decode cX5_reach 34 = .ok (.goto (-27), 3) := by decide +kernel
theorem dX5_reach_37 : decode cX5_reach 37 = .ok (.iload_n 1, 1) := by decide +kernel
theorem dX5_reach_38 : decode cX5_reach 38 = .ok (.ireturn, 1) := by decide +kernel
theorem dX5_bits_0 : decode cX5_bits 0 = .ok (.iload_n 0, 1) := by decide +kernel
theorem dX5_bits_1 : decode cX5_bits 1 = .ok (.invokestatic 146, 3) := by decide +kernel
theorem dX5_bits_4 : decode cX5_bits 4 = .ok (.iload_n 0, 1) := by decide +kernel
theorem dX5_bits_5 : decode cX5_bits 5 = .ok (.iconst 3, 1) := by decide +kernel
theorem dX5_bits_6 : decode cX5_bits 6 = .ok (.ishr, 1) := by decide +kernel
theorem dX5_bits_7 : decode cX5_bits 7 = .ok (.iconst 1, 1) := by decide +kernel
theorem dX5_bits_8 : decode cX5_bits 8 = .ok (.iand, 1) := by decide +kernel
theorem dX5_bits_9 : decode cX5_bits 9 = .ok (.iadd, 1) := by decide +kernel
theorem dX5_bits_10 : decode cX5_bits 10 = .ok (.ireturn, 1) := by decide +kernel
theorem dX5_fewest_0 : decode cX5_fewest 0 = .ok (.iconst 0, 1) := by decide +kernel
theorem dX5_fewest_1 : decode cX5_fewest 1 = .ok (.istore_n 1, 1) := by decide +kernel
theorem dX5_fewest_2 : decode cX5_fewest 2 = .ok (.iload_n 1, 1) := by decide +kernel
theorem dX5_fewest_3 : decode cX5_fewest 3 = .ok (.aload_n 0, 1) := by decide +kernel
theorem dX5_fewest_4 : decode cX5_fewest 4 = .ok (.getfield 63, 3) := by decide +kernel
theorem dX5_fewest_7 : decode cX5_fewest 7 = .ok (.if_icmp .gt 60, 3) := by decide +kernel
theorem dX5_fewest_10 : decode cX5_fewest 10 = .ok (.iconst 0, 1) := by decide +kernel
theorem dX5_fewest_11 : decode cX5_fewest 11 = .ok (.istore_n 2, 1) := by decide +kernel
theorem dX5_fewest_12 : decode cX5_fewest 12 = .ok (.iload_n 2, 1) := by decide +kernel
theorem dX5_fewest_13 : decode cX5_fewest 13 = .ok (.iconst 1, 1) := by decide +kernel
theorem dX5_fewest_14 : decode cX5_fewest 14 = .ok (.aload_n 0, 1) := by decide +kernel
theorem dX5_fewest_15 : decode cX5_fewest 15 = .ok (.getfield 63, 3) := by decide +kernel
theorem dX5_fewest_18 : decode cX5_fewest 18 = .ok (.ishl, 1) := by decide +kernel
theorem dX5_fewest_19 : decode cX5_fewest 19 = .ok (.if_icmp .ge 42, 3) := by decide +kernel
theorem dX5_fewest_22 : decode cX5_fewest 22 = .ok (.iload_n 2, 1) := by decide +kernel
theorem dX5_fewest_23 : decode cX5_fewest 23 = .ok (.invokestatic 192, 3) := by decide +kernel
theorem dX5_fewest_26 : decode cX5_fewest 26 = .ok (.iload_n 1, 1) := by decide +kernel
theorem dX5_fewest_27 : decode cX5_fewest 27 = .ok (.if_icmp .ne 28, 3) := by decide +kernel
theorem dX5_fewest_30 : decode cX5_fewest 30 = .ok (.aload_n 0, 1) := by decide +kernel
theorem dX5_fewest_31 : decode cX5_fewest 31 = .ok (.iload_n 2, 1) := by decide +kernel
theorem dX5_fewest_32 : decode cX5_fewest 32 = .ok (.aload_n 0, 1) := by decide +kernel
theorem dX5_fewest_33 : decode cX5_fewest 33 = .ok (.getfield 13, 3) := by decide +kernel
theorem dX5_fewest_36 : decode cX5_fewest 36 = .ok (.bipush 35, 2) := by decide +kernel
theorem dX5_fewest_38 : decode cX5_fewest 38 = .ok (.iaload, 1) := by decide +kernel
theorem dX5_fewest_39 : decode cX5_fewest 39 = .ok (.aload_n 0, 1) := by decide +kernel
theorem dX5_fewest_40 : decode cX5_fewest 40 = .ok (.getfield 13, 3) := by decide +kernel
theorem dX5_fewest_43 : decode cX5_fewest 43 = .ok (.iconst 0, 1) := by decide +kernel
theorem dX5_fewest_44 : decode cX5_fewest 44 = .ok (.iaload, 1) := by decide +kernel
theorem dX5_fewest_45 : decode cX5_fewest 45 = .ok (.invokevirtual 180, 3) := by decide +kernel
theorem dX5_fewest_48 : decode cX5_fewest 48 = .ok (.ldc 155, 2) := by decide +kernel
theorem dX5_fewest_50 : decode cX5_fewest 50 = .ok (.if_icmp .eq 5, 3) := by decide +kernel
theorem dX5_fewest_53 : decode cX5_fewest 53 = .ok (.iload_n 2, 1) := by decide +kernel
theorem dX5_fewest_54 : decode cX5_fewest 54 = .ok (.ireturn, 1) := by decide +kernel
theorem dX5_fewest_55 : decode cX5_fewest 55 = .ok (.iinc 2 1, 3) := by decide +kernel
theorem dX5_fewest_58 : decode cX5_fewest 58 = .ok (.goto (-46), 3) := by decide +kernel
theorem dX5_fewest_61 : decode cX5_fewest 61 = .ok (.iinc 1 1, 3) := by decide +kernel
theorem dX5_fewest_64 : decode cX5_fewest 64 = .ok (.goto (-62), 3) := by decide +kernel
theorem dX5_fewest_67 : decode cX5_fewest 67 = .ok (.bipush (-9), 2) := by decide +kernel
theorem dX5_fewest_69 : decode cX5_fewest 69 = .ok (.ireturn, 1) := by decide +kernel
theorem dX5_bear_0 : decode cX5_bear 0 = .ok (.iconst 0, 1) := by decide +kernel
theorem dX5_bear_1 : decode cX5_bear 1 = .ok (.istore_n 1, 1) := by decide +kernel
theorem dX5_bear_2 : decode cX5_bear 2 = .ok (.iload_n 1, 1) := by decide +kernel
theorem dX5_bear_3 : decode cX5_bear 3 = .ok (.bipush 30, 2) := by decide +kernel
theorem dX5_bear_5 : decode cX5_bear 5 = .ok (.if_icmp .gt 34, 3) := by decide +kernel
theorem dX5_bear_8 : decode cX5_bear 8 = .ok (.aload_n 0, 1) := by decide +kernel
theorem dX5_bear_9 : decode cX5_bear 9 = .ok (.aload_n 0, 1) := by decide +kernel
theorem dX5_bear_10 : decode cX5_bear 10 = .ok (.getfield 13, 3) := by decide +kernel
theorem dX5_bear_13 : decode cX5_bear 13 = .ok (.bipush 33, 2) := by decide +kernel
theorem dX5_bear_15 : decode cX5_bear 15 = .ok (.iaload, 1) := by decide +kernel
theorem dX5_bear_16 : decode cX5_bear 16 = .ok (.iload_n 1, 1) := by decide +kernel
theorem dX5_bear_17 : decode cX5_bear 17 = .ok (.aload_n 0, 1) := by decide +kernel
theorem dX5_bear_18 : decode cX5_bear 18 = .ok (.getfield 13, 3) := by decide +kernel
theorem dX5_bear_21 : decode cX5_bear 21 = .ok (.iconst 0, 1) := by decide +kernel
theorem dX5_bear_22 : decode cX5_bear 22 = .ok (.iaload, 1) := by decide +kernel
theorem dX5_bear_23 : decode cX5_bear 23 = .ok (.invokevirtual 180, 3) := by decide +kernel
theorem dX5_bear_26 : decode cX5_bear 26 = .ok (.ldc 155, 2) := by decide +kernel
theorem dX5_bear_28 : decode cX5_bear 28 = .ok (.if_icmp .eq 5, 3) := by decide +kernel
theorem dX5_bear_31 : decode cX5_bear 31 = .ok (.iload_n 1, 1) := by decide +kernel
theorem dX5_bear_32 : decode cX5_bear 32 = .ok (.ireturn, 1) := by decide +kernel
theorem dX5_bear_33 : decode cX5_bear 33 = .ok (.iinc 1 1, 3) := by decide +kernel
theorem dX5_bear_36 : decode cX5_bear 36 = .ok (.goto (-34), 3) := by decide +kernel
theorem dX5_bear_39 : decode cX5_bear 39 = .ok (.bipush (-9), 2) := by decide +kernel
theorem dX5_bear_41 : decode cX5_bear 41 = .ok (.ireturn, 1) := by decide +kernel
theorem dX5_hears_0 : decode cX5_hears 0 = .ok (.aload_n 0, 1) := by decide +kernel
theorem dX5_hears_1 : decode cX5_hears 1 = .ok (.iload_n 1, 1) := by decide +kernel
theorem dX5_hears_2 : decode cX5_hears 2 = .ok (.invokevirtual 124, 3) := by decide +kernel
theorem dX5_hears_5 : decode cX5_hears 5 = .ok (.ifCond .eq 12, 3) := by decide +kernel
theorem dX5_hears_8 : decode cX5_hears 8 = .ok (.iload_n 2, 1) := by decide +kernel
theorem dX5_hears_9 : decode cX5_hears 9 = .ok (.iconst 0, 1) := by decide +kernel
theorem dX5_hears_10 : decode cX5_hears 10 = .ok (.iconst 1, 1) := by decide +kernel
theorem dX5_hears_11 : decode cX5_hears 11 = .ok (.invokestatic 72, 3) := by decide +kernel
theorem dX5_hears_14 : decode cX5_hears 14 = .ok (.ifCond .ne 5, 3) := by decide +kernel
theorem dX5_hears_17 : decode cX5_hears 17 = .ok (.iconst (-1), 1) := by decide +kernel
theorem dX5_hears_18 : decode cX5_hears 18 = .ok (.ireturn, 1) := by decide +kernel
theorem dX5_hears_19 : decode cX5_hears 19 = .ok (.aload_n 0, 1) := by decide +kernel
theorem dX5_hears_20 : decode cX5_hears 20 = .ok (.getfield 69, 3) := by decide +kernel
theorem dX5_hears_23 : decode cX5_hears 23 = .ok (.bipush 6, 2) := by decide +kernel
theorem dX5_hears_25 : decode cX5_hears 25 = .ok (.if_icmp .ne 6, 3) := by decide +kernel
theorem dX5_hears_28 : decode cX5_hears 28 = .ok (.bipush (-3), 2) := by decide +kernel
theorem dX5_hears_30 : decode cX5_hears 30 = .ok (.ireturn, 1) := by decide +kernel
theorem dX5_hears_31 : decode cX5_hears 31 = .ok (.aload_n 0, 1) := by decide +kernel
theorem dX5_hears_32 : decode cX5_hears 32 = .ok (.getfield 26, 3) := by decide +kernel
theorem dX5_hears_35 : decode cX5_hears 35 = .ok (.aload_n 0, 1) := by decide +kernel
theorem dX5_hears_36 : decode cX5_hears 36 = .ok (.getfield 69, 3) := by decide +kernel
theorem dX5_hears_39 : decode cX5_hears 39 = .ok (.iload_n 1, 1) := by decide +kernel
theorem dX5_hears_40 : decode cX5_hears 40 = .ok (.iastore, 1) := by decide +kernel
theorem dX5_hears_41 : decode cX5_hears 41 = .ok (.aload_n 0, 1) := by decide +kernel
theorem dX5_hears_42 : decode cX5_hears 42 = .ok (.getfield 29, 3) := by decide +kernel
theorem dX5_hears_45 : decode cX5_hears 45 = .ok (.aload_n 0, 1) := by decide +kernel
theorem dX5_hears_46 : decode cX5_hears 46 = .ok (.getfield 69, 3) := by decide +kernel
theorem dX5_hears_49 : decode cX5_hears 49 = .ok (.iload_n 2, 1) := by decide +kernel
theorem dX5_hears_50 : decode cX5_hears 50 = .ok (.iastore, 1) := by decide +kernel
theorem dX5_hears_51 : decode cX5_hears 51 = .ok (.aload_n 0, 1) := by decide +kernel
theorem dX5_hears_52 : decode cX5_hears 52 = .ok (.dup, 1) := by decide +kernel
theorem dX5_hears_53 : decode cX5_hears 53 = .ok (.getfield 69, 3) := by decide +kernel
theorem dX5_hears_56 : decode cX5_hears 56 = .ok (.iconst 1, 1) := by decide +kernel
theorem dX5_hears_57 : decode cX5_hears 57 = .ok (.iadd, 1) := by decide +kernel
theorem dX5_hears_58 : decode cX5_hears 58 = .ok (.putfield 69, 3) := by decide +kernel
theorem dX5_hears_61 : decode cX5_hears 61 = .ok (.aload_n 0, 1) := by decide +kernel
theorem dX5_hears_62 : decode cX5_hears 62 = .ok (.getfield 69, 3) := by decide +kernel
theorem dX5_hears_65 : decode cX5_hears 65 = .ok (.ireturn, 1) := by decide +kernel
theorem dX5_forget_0 : decode cX5_forget 0 = .ok (.aload_n 0, 1) := by decide +kernel
theorem dX5_forget_1 : decode cX5_forget 1 = .ok (.getfield 69, 3) := by decide +kernel
theorem dX5_forget_4 : decode cX5_forget 4 = .ok (.istore_n 1, 1) := by decide +kernel
theorem dX5_forget_5 : decode cX5_forget 5 = .ok (.aload_n 0, 1) := by decide +kernel
theorem dX5_forget_6 : decode cX5_forget 6 = .ok (.iconst 0, 1) := by decide +kernel
theorem dX5_forget_7 : decode cX5_forget 7 = .ok (.putfield 69, 3) := by decide +kernel
theorem dX5_forget_10 : decode cX5_forget 10 = .ok (.iload_n 1, 1) := by decide +kernel
theorem dX5_forget_11 : decode cX5_forget 11 = .ok (.ireturn, 1) := by decide +kernel
theorem dX5_ill_0 : decode cX5_ill 0 = .ok (.iconst 0, 1) := by decide +kernel
theorem dX5_ill_1 : decode cX5_ill 1 = .ok (.istore_n 1, 1) := by decide +kernel
theorem dX5_ill_2 : decode cX5_ill 2 = .ok (.iconst 0, 1) := by decide +kernel
theorem dX5_ill_3 : decode cX5_ill 3 = .ok (.istore_n 2, 1) := by decide +kernel
theorem dX5_ill_4 : decode cX5_ill 4 = .ok (.iload_n 2, 1) := by decide +kernel
theorem dX5_ill_5 : decode cX5_ill 5 = .ok (.aload_n 0, 1) := by decide +kernel
theorem dX5_ill_6 : decode cX5_ill 6 = .ok (.getfield 63, 3) := by decide +kernel
theorem dX5_ill_9 : decode cX5_ill 9 = .ok (.if_icmp .ge 141, 3) := by decide +kernel
theorem dX5_ill_12 : decode cX5_ill 12 = .ok (.aload_n 0, 1) := by decide +kernel
theorem dX5_ill_13 : decode cX5_ill 13 = .ok (.iload_n 2, 1) := by decide +kernel
theorem dX5_ill_14 : decode cX5_ill 14 = .ok (.invokevirtual 117, 3) := by decide +kernel
theorem dX5_ill_17 : decode cX5_ill 17 = .ok (.istore_n 3, 1) := by decide +kernel
theorem dX5_ill_18 : decode cX5_ill 18 = .ok (.iconst 0, 1) := by decide +kernel
theorem dX5_ill_19 : decode cX5_ill 19 = .ok (.istore 4, 2) := by decide +kernel
theorem dX5_ill_21 : decode cX5_ill 21 = .ok (.iload 4, 2) := by decide +kernel
theorem dX5_ill_23 : decode cX5_ill 23 = .ok (.aload_n 0, 1) := by decide +kernel
theorem dX5_ill_24 : decode cX5_ill 24 = .ok (.getfield 69, 3) := by decide +kernel
theorem dX5_ill_27 : decode cX5_ill 27 = .ok (.if_icmp .ge 103, 3) := by decide +kernel
theorem dX5_ill_30 : decode cX5_ill 30 = .ok (.iload_n 3, 1) := by decide +kernel
theorem dX5_ill_31 : decode cX5_ill 31 = .ok (.ifCond .eq 99, 3) := by decide +kernel
theorem dX5_ill_34 : decode cX5_ill 34 = .ok (.aload_n 0, 1) := by decide +kernel
theorem dX5_ill_35 : decode cX5_ill 35 = .ok (.aload_n 0, 1) := by decide +kernel
theorem dX5_ill_36 : decode cX5_ill 36 = .ok (.getfield 26, 3) := by decide +kernel
theorem dX5_ill_39 : decode cX5_ill 39 = .ok (.iload 4, 2) := by decide +kernel
theorem dX5_ill_41 : decode cX5_ill 41 = .ok (.iaload, 1) := by decide +kernel
theorem dX5_ill_42 : decode cX5_ill 42 = .ok (.invokevirtual 124, 3) := by decide +kernel
theorem dX5_ill_45 : decode cX5_ill 45 = .ok (.ifCond .eq 79, 3) := by decide +kernel
theorem dX5_ill_48 : decode cX5_ill 48 = .ok (.aload_n 0, 1) := by decide +kernel
theorem dX5_ill_49 : decode cX5_ill 49 = .ok (.aload_n 0, 1) := by decide +kernel
theorem dX5_ill_50 : decode cX5_ill 50 = .ok (.getfield 26, 3) := by decide +kernel
theorem dX5_ill_53 : decode cX5_ill 53 = .ok (.iload 4, 2) := by decide +kernel
theorem dX5_ill_55 : decode cX5_ill 55 = .ok (.iaload, 1) := by decide +kernel
theorem dX5_ill_56 : decode cX5_ill 56 = .ok (.aload_n 0, 1) := by decide +kernel
theorem dX5_ill_57 : decode cX5_ill 57 = .ok (.getfield 13, 3) := by decide +kernel
theorem dX5_ill_60 : decode cX5_ill 60 = .ok (.bipush 33, 2) := by decide +kernel
theorem dX5_ill_62 : decode cX5_ill 62 = .ok (.iaload, 1) := by decide +kernel
theorem dX5_ill_63 : decode cX5_ill 63 = .ok (.iconst 1, 1) := by decide +kernel
theorem dX5_ill_64 : decode cX5_ill 64 = .ok (.iload_n 2, 1) := by decide +kernel
theorem dX5_ill_65 : decode cX5_ill 65 = .ok (.ishl, 1) := by decide +kernel
theorem dX5_ill_66 : decode cX5_ill 66 = .ok (.iconst (-1), 1) := by decide +kernel
theorem dX5_ill_67 : decode cX5_ill 67 = .ok (.ixor, 1) := by decide +kernel
theorem dX5_ill_68 : decode cX5_ill 68 = .ok (.iand, 1) := by decide +kernel
theorem dX5_ill_69 : decode cX5_ill 69 = .ok (.aload_n 0, 1) := by decide +kernel
theorem dX5_ill_70 : decode cX5_ill 70 = .ok (.getfield 13, 3) := by decide +kernel
theorem dX5_ill_73 : decode cX5_ill 73 = .ok (.bipush 35, 2) := by decide +kernel
theorem dX5_ill_75 : decode cX5_ill 75 = .ok (.iaload, 1) := by decide +kernel
theorem dX5_ill_76 : decode cX5_ill 76 = .ok (.invokevirtual 166, 3) := by decide +kernel
theorem dX5_ill_79 : decode cX5_ill 79 = .ok (.aload_n 0, 1) := by decide +kernel
theorem dX5_ill_80 : decode cX5_ill 80 = .ok (.getfield 44, 3) := by decide +kernel
theorem dX5_ill_83 : decode cX5_ill 83 = .ok (.aload_n 0, 1) := by decide +kernel
theorem dX5_ill_84 : decode cX5_ill 84 = .ok (.getfield 26, 3) := by decide +kernel
theorem dX5_ill_87 : decode cX5_ill 87 = .ok (.iload 4, 2) := by decide +kernel
theorem dX5_ill_89 : decode cX5_ill 89 = .ok (.iaload, 1) := by decide +kernel
theorem dX5_ill_90 : decode cX5_ill 90 = .ok (.iaload, 1) := by decide +kernel
theorem dX5_ill_91 : decode cX5_ill 91 = .ok (.ifCond .le 7, 3) := by decide +kernel
theorem dX5_ill_94 : decode cX5_ill 94 = .ok (.iconst 1, 1) := by decide +kernel
theorem dX5_ill_95 : decode cX5_ill 95 = .ok (.goto 4, 3) := by decide +kernel
theorem dX5_ill_98 : decode cX5_ill 98 = .ok (.iconst 0, 1) := by decide +kernel
theorem dX5_ill_99 : decode cX5_ill 99 = .ok (.aload_n 0, 1) := by decide +kernel
theorem dX5_ill_100 : decode cX5_ill 100 = .ok (.getfield 29, 3) := by decide +kernel
theorem dX5_ill_103 : decode cX5_ill 103 = .ok (.iload 4, 2) := by decide +kernel
theorem dX5_ill_105 : decode cX5_ill 105 = .ok (.iaload, 1) := by decide +kernel
theorem dX5_ill_106 : decode cX5_ill 106 = .ok (.iconst 1, 1) := by decide +kernel
theorem dX5_ill_107 : decode cX5_ill 107 = .ok (.if_icmp .ne 7, 3) := by decide +kernel
theorem dX5_ill_110 : decode cX5_ill 110 = .ok (.iconst 1, 1) := by decide +kernel
theorem dX5_ill_111 : decode cX5_ill 111 = .ok (.goto 4, 3) := by decide +kernel
theorem dX5_ill_114 : decode cX5_ill 114 = .ok (.iconst 0, 1) := by decide +kernel
theorem dX5_ill_115 : decode cX5_ill 115 = .ok (.if_icmp .ne 7, 3) := by decide +kernel
theorem dX5_ill_118 : decode cX5_ill 118 = .ok (.iconst 1, 1) := by decide +kernel
theorem dX5_ill_119 : decode cX5_ill 119 = .ok (.goto 4, 3) := by decide +kernel
theorem dX5_ill_122 : decode cX5_ill 122 = .ok (.iconst 0, 1) := by decide +kernel
theorem dX5_ill_123 : decode cX5_ill 123 = .ok (.istore_n 3, 1) := by decide +kernel
theorem dX5_ill_124 : decode cX5_ill 124 = .ok (.iinc 4 1, 3) := by decide +kernel
theorem dX5_ill_127 : decode cX5_ill 127 = .ok (.goto (-106), 3) := by decide +kernel
theorem dX5_ill_130 : decode cX5_ill 130 = .ok (.iload_n 1, 1) := by decide +kernel
theorem dX5_ill_131 : decode cX5_ill 131 = .ok (.iload_n 3, 1) := by decide +kernel
theorem dX5_ill_132 : decode cX5_ill 132 = .ok (.ifCond .eq 9, 3) := by decide +kernel
theorem dX5_ill_135 : decode cX5_ill 135 = .ok (.iconst 1, 1) := by decide +kernel
theorem dX5_ill_136 : decode cX5_ill 136 = .ok (.iload_n 2, 1) := by decide +kernel
theorem dX5_ill_137 : decode cX5_ill 137 = .ok (.ishl, 1) := by decide +kernel
theorem dX5_ill_138 : decode cX5_ill 138 = .ok (.goto 4, 3) := by decide +kernel
theorem dX5_ill_141 : decode cX5_ill 141 = .ok (.iconst 0, 1) := by decide +kernel
theorem dX5_ill_142 : decode cX5_ill 142 = .ok (.ior, 1) := by decide +kernel
theorem dX5_ill_143 : decode cX5_ill 143 = .ok (.istore_n 1, 1) := by decide +kernel
theorem dX5_ill_144 : decode cX5_ill 144 = .ok (.iinc 2 1, 3) := by decide +kernel
theorem dX5_ill_147 : decode cX5_ill 147 = .ok (.goto (-143), 3) := by decide +kernel
theorem dX5_ill_150 : decode cX5_ill 150 = .ok (.iload_n 1, 1) := by decide +kernel
theorem dX5_ill_151 : decode cX5_ill 151 = .ok (.ireturn, 1) := by decide +kernel
theorem dX5_keep_0 : decode cX5_keep 0 = .ok (.iload_n 1, 1) := by decide +kernel
theorem dX5_keep_1 : decode cX5_keep 1 = .ok (.iconst 0, 1) := by decide +kernel
theorem dX5_keep_2 : decode cX5_keep 2 = .ok (.iconst 1, 1) := by decide +kernel
theorem dX5_keep_3 : decode cX5_keep 3 = .ok (.invokestatic 72, 3) := by decide +kernel
theorem dX5_keep_6 : decode cX5_keep 6 = .ok (.ifCond .ne 5, 3) := by decide +kernel
theorem dX5_keep_9 : decode cX5_keep 9 = .ok (.iconst (-1), 1) := by decide +kernel
theorem dX5_keep_10 : decode cX5_keep 10 = .ok (.ireturn, 1) := by decide +kernel
theorem dX5_keep_11 : decode cX5_keep 11 = .ok (.iconst 0, 1) := by decide +kernel
theorem dX5_keep_12 : decode cX5_keep 12 = .ok (.istore_n 2, 1) := by decide +kernel
theorem dX5_keep_13 : decode cX5_keep 13 = .ok (.iload_n 2, 1) := by decide +kernel
theorem dX5_keep_14 : decode cX5_keep 14 = .ok (.bipush 36, 2) := by decide +kernel
theorem dX5_keep_16 : decode cX5_keep 16 = .ok (.if_icmp .ge 26, 3) := by decide +kernel
theorem dX5_keep_19 : decode cX5_keep 19 = .ok (.aload_n 0, 1) := by decide +kernel
theorem dX5_keep_20 : decode cX5_keep 20 = .ok (.getfield 23, 3) := by decide +kernel
theorem dX5_keep_23 : decode cX5_keep 23 = .ok (.bipush 36, 2) := by decide +kernel
theorem dX5_keep_25 : decode cX5_keep 25 = .ok (.iload_n 1, 1) := by decide +kernel
theorem dX5_keep_26 : decode cX5_keep 26 = .ok (.imul, 1) := by decide +kernel
theorem dX5_keep_27 : decode cX5_keep 27 = .ok (.iload_n 2, 1) := by decide +kernel
theorem dX5_keep_28 : decode cX5_keep 28 = .ok (.iadd, 1) := by decide +kernel
theorem dX5_keep_29 : decode cX5_keep 29 = .ok (.aload_n 0, 1) := by decide +kernel
theorem dX5_keep_30 : decode cX5_keep 30 = .ok (.getfield 13, 3) := by decide +kernel
theorem dX5_keep_33 : decode cX5_keep 33 = .ok (.iload_n 2, 1) := by decide +kernel
theorem dX5_keep_34 : decode cX5_keep 34 = .ok (.iaload, 1) := by decide +kernel
theorem dX5_keep_35 : decode cX5_keep 35 = .ok (.iastore, 1) := by decide +kernel
theorem dX5_keep_36 : decode cX5_keep 36 = .ok (.iinc 2 1, 3) := by decide +kernel
theorem dX5_keep_39 : decode cX5_keep 39 = .ok (.goto (-26), 3) := by decide +kernel
theorem dX5_keep_42 : decode cX5_keep 42 = .ok (.aload_n 0, 1) := by decide +kernel
theorem dX5_keep_43 : decode cX5_keep 43 = .ok (.getfield 19, 3) := by decide +kernel
theorem dX5_keep_46 : decode cX5_keep 46 = .ok (.iload_n 1, 1) := by decide +kernel
theorem dX5_keep_47 : decode cX5_keep 47 = .ok (.iconst 1, 1) := by decide +kernel
theorem dX5_keep_48 : decode cX5_keep 48 = .ok (.bastore, 1) := by decide +kernel
theorem dX5_keep_49 : decode cX5_keep 49 = .ok (.aload_n 0, 1) := by decide +kernel
theorem dX5_keep_50 : decode cX5_keep 50 = .ok (.getfield 13, 3) := by decide +kernel
theorem dX5_keep_53 : decode cX5_keep 53 = .ok (.iconst 0, 1) := by decide +kernel
theorem dX5_keep_54 : decode cX5_keep 54 = .ok (.iaload, 1) := by decide +kernel
theorem dX5_keep_55 : decode cX5_keep 55 = .ok (.ireturn, 1) := by decide +kernel
theorem dX5_back_0 : decode cX5_back 0 = .ok (.iload_n 1, 1) := by decide +kernel
theorem dX5_back_1 : decode cX5_back 1 = .ok (.iconst 0, 1) := by decide +kernel
theorem dX5_back_2 : decode cX5_back 2 = .ok (.iconst 1, 1) := by decide +kernel
theorem dX5_back_3 : decode cX5_back 3 = .ok (.invokestatic 72, 3) := by decide +kernel
theorem dX5_back_6 : decode cX5_back 6 = .ok (.ifCond .ne 5, 3) := by decide +kernel
theorem dX5_back_9 : decode cX5_back 9 = .ok (.iconst (-1), 1) := by decide +kernel
theorem dX5_back_10 : decode cX5_back 10 = .ok (.ireturn, 1) := by decide +kernel
theorem dX5_back_11 : decode cX5_back 11 = .ok (.aload_n 0, 1) := by decide +kernel
theorem dX5_back_12 : decode cX5_back 12 = .ok (.getfield 19, 3) := by decide +kernel
theorem dX5_back_15 : decode cX5_back 15 = .ok (.iload_n 1, 1) := by decide +kernel
theorem dX5_back_16 : decode cX5_back 16 = .ok (.baload, 1) := by decide +kernel
theorem dX5_back_17 : decode cX5_back 17 = .ok (.ifCond .ne 6, 3) := by decide +kernel
theorem dX5_back_20 : decode cX5_back 20 = .ok (.bipush (-2), 2) := by decide +kernel
theorem dX5_back_22 : decode cX5_back 22 = .ok (.ireturn, 1) := by decide +kernel
theorem dX5_back_23 : decode cX5_back 23 = .ok (.iconst 0, 1) := by decide +kernel
theorem dX5_back_24 : decode cX5_back 24 = .ok (.istore_n 2, 1) := by decide +kernel
theorem dX5_back_25 : decode cX5_back 25 = .ok (.iload_n 2, 1) := by decide +kernel
theorem dX5_back_26 : decode cX5_back 26 = .ok (.bipush 36, 2) := by decide +kernel
theorem dX5_back_28 : decode cX5_back 28 = .ok (.if_icmp .ge 26, 3) := by decide +kernel
theorem dX5_back_31 : decode cX5_back 31 = .ok (.aload_n 0, 1) := by decide +kernel
theorem dX5_back_32 : decode cX5_back 32 = .ok (.getfield 13, 3) := by decide +kernel
theorem dX5_back_35 : decode cX5_back 35 = .ok (.iload_n 2, 1) := by decide +kernel
theorem dX5_back_36 : decode cX5_back 36 = .ok (.aload_n 0, 1) := by decide +kernel
theorem dX5_back_37 : decode cX5_back 37 = .ok (.getfield 23, 3) := by decide +kernel
theorem dX5_back_40 : decode cX5_back 40 = .ok (.bipush 36, 2) := by decide +kernel
theorem dX5_back_42 : decode cX5_back 42 = .ok (.iload_n 1, 1) := by decide +kernel
theorem dX5_back_43 : decode cX5_back 43 = .ok (.imul, 1) := by decide +kernel
theorem dX5_back_44 : decode cX5_back 44 = .ok (.iload_n 2, 1) := by decide +kernel
theorem dX5_back_45 : decode cX5_back 45 = .ok (.iadd, 1) := by decide +kernel
theorem dX5_back_46 : decode cX5_back 46 = .ok (.iaload, 1) := by decide +kernel
theorem dX5_back_47 : decode cX5_back 47 = .ok (.iastore, 1) := by decide +kernel
theorem dX5_back_48 : decode cX5_back 48 = .ok (.iinc 2 1, 3) := by decide +kernel
theorem dX5_back_51 : decode cX5_back 51 = .ok (.goto (-26), 3) := by decide +kernel
theorem dX5_back_54 : decode cX5_back 54 = .ok (.aload_n 0, 1) := by decide +kernel
theorem dX5_back_55 : decode cX5_back 55 = .ok (.iconst 0, 1) := by decide +kernel
theorem dX5_back_56 : decode cX5_back 56 = .ok (.putfield 66, 3) := by decide +kernel
theorem dX5_back_59 : decode cX5_back 59 = .ok (.aload_n 0, 1) := by decide +kernel
theorem dX5_back_60 : decode cX5_back 60 = .ok (.getfield 13, 3) := by decide +kernel
theorem dX5_back_63 : decode cX5_back 63 = .ok (.iconst 0, 1) := by decide +kernel
theorem dX5_back_64 : decode cX5_back 64 = .ok (.iaload, 1) := by decide +kernel
theorem dX5_back_65 : decode cX5_back 65 = .ok (.ireturn, 1) := by decide +kernel
theorem dX5_count_0 : decode cX5_count 0 = .ok (.iload_n 1, 1) := by decide +kernel
theorem dX5_count_1 : decode cX5_count 1 = .ok (.tableswitch 98 0 7 #[47, 52, 60, 67, 75, 83, 88, 93], 47) := by decide +kernel
theorem dX5_count_48 : decode cX5_count 48 = .ok (.aload_n 0, 1) := by decide +kernel
theorem dX5_count_49 : decode cX5_count 49 = .ok (.getfield 63, 3) := by decide +kernel
theorem dX5_count_52 : decode cX5_count 52 = .ok (.ireturn, 1) := by decide +kernel
theorem dX5_count_53 : decode cX5_count 53 = .ok (.aload_n 0, 1) := by decide +kernel
theorem dX5_count_54 : decode cX5_count 54 = .ok (.getfield 13, 3) := by decide +kernel
theorem dX5_count_57 : decode cX5_count 57 = .ok (.bipush 33, 2) := by decide +kernel
theorem dX5_count_59 : decode cX5_count 59 = .ok (.iaload, 1) := by decide +kernel
theorem dX5_count_60 : decode cX5_count 60 = .ok (.ireturn, 1) := by decide +kernel
theorem dX5_count_61 : decode cX5_count 61 = .ok (.aload_n 0, 1) := by decide +kernel
theorem dX5_count_62 : decode cX5_count 62 = .ok (.getfield 13, 3) := by decide +kernel
theorem dX5_count_65 : decode cX5_count 65 = .ok (.iconst 0, 1) := by decide +kernel
theorem dX5_count_66 : decode cX5_count 66 = .ok (.iaload, 1) := by decide +kernel
theorem dX5_count_67 : decode cX5_count 67 = .ok (.ireturn, 1) := by decide +kernel
theorem dX5_count_68 : decode cX5_count 68 = .ok (.aload_n 0, 1) := by decide +kernel
theorem dX5_count_69 : decode cX5_count 69 = .ok (.getfield 13, 3) := by decide +kernel
theorem dX5_count_72 : decode cX5_count 72 = .ok (.bipush 34, 2) := by decide +kernel
theorem dX5_count_74 : decode cX5_count 74 = .ok (.iaload, 1) := by decide +kernel
theorem dX5_count_75 : decode cX5_count 75 = .ok (.ireturn, 1) := by decide +kernel
theorem dX5_count_76 : decode cX5_count 76 = .ok (.aload_n 0, 1) := by decide +kernel
theorem dX5_count_77 : decode cX5_count 77 = .ok (.getfield 13, 3) := by decide +kernel
theorem dX5_count_80 : decode cX5_count 80 = .ok (.bipush 35, 2) := by decide +kernel
theorem dX5_count_82 : decode cX5_count 82 = .ok (.iaload, 1) := by decide +kernel
theorem dX5_count_83 : decode cX5_count 83 = .ok (.ireturn, 1) := by decide +kernel
theorem dX5_count_84 : decode cX5_count 84 = .ok (.aload_n 0, 1) := by decide +kernel
theorem dX5_count_85 : decode cX5_count 85 = .ok (.getfield 69, 3) := by decide +kernel
theorem dX5_count_88 : decode cX5_count 88 = .ok (.ireturn, 1) := by decide +kernel
theorem dX5_count_89 : decode cX5_count 89 = .ok (.aload_n 0, 1) := by decide +kernel
theorem dX5_count_90 : decode cX5_count 90 = .ok (.getfield 76, 3) := by decide +kernel
theorem dX5_count_93 : decode cX5_count 93 = .ok (.ireturn, 1) := by decide +kernel
theorem dX5_count_94 : decode cX5_count 94 = .ok (.aload_n 0, 1) := by decide +kernel
theorem dX5_count_95 : decode cX5_count 95 = .ok (.getfield 66, 3) := by decide +kernel
theorem dX5_count_98 : decode cX5_count 98 = .ok (.ireturn, 1) := by decide +kernel
theorem dX5_count_99 : decode cX5_count 99 = .ok (.iconst (-1), 1) := by decide +kernel
theorem dX5_count_100 : decode cX5_count 100 = .ok (.ireturn, 1) := by decide +kernel
theorem dJ6_bitCount_0f7a4_0 : decode cJ6_bitCount_0f7a4 0 = .ok (.iload_n 0, 1) := by decide +kernel
theorem dJ6_bitCount_0f7a4_1 : decode cJ6_bitCount_0f7a4 1 = .ok (.iload_n 0, 1) := by decide +kernel
theorem dJ6_bitCount_0f7a4_2 : decode cJ6_bitCount_0f7a4 2 = .ok (.iconst 1, 1) := by decide +kernel
theorem dJ6_bitCount_0f7a4_3 : decode cJ6_bitCount_0f7a4 3 = .ok (.iushr, 1) := by decide +kernel
theorem dJ6_bitCount_0f7a4_4 : decode cJ6_bitCount_0f7a4 4 = .ok (.ldc_w 265, 3) := by decide +kernel
theorem dJ6_bitCount_0f7a4_7 : decode cJ6_bitCount_0f7a4 7 = .ok (.iand, 1) := by decide +kernel
theorem dJ6_bitCount_0f7a4_8 : decode cJ6_bitCount_0f7a4 8 = .ok (.isub, 1) := by decide +kernel
theorem dJ6_bitCount_0f7a4_9 : decode cJ6_bitCount_0f7a4 9 = .ok (.istore_n 0, 1) := by decide +kernel
theorem dJ6_bitCount_0f7a4_10 : decode cJ6_bitCount_0f7a4 10 = .ok (.iload_n 0, 1) := by decide +kernel
theorem dJ6_bitCount_0f7a4_11 : decode cJ6_bitCount_0f7a4 11 = .ok (.ldc_w 266, 3) := by decide +kernel
theorem dJ6_bitCount_0f7a4_14 : decode cJ6_bitCount_0f7a4 14 = .ok (.iand, 1) := by decide +kernel
theorem dJ6_bitCount_0f7a4_15 : decode cJ6_bitCount_0f7a4 15 = .ok (.iload_n 0, 1) := by decide +kernel
theorem dJ6_bitCount_0f7a4_16 : decode cJ6_bitCount_0f7a4 16 = .ok (.iconst 2, 1) := by decide +kernel
theorem dJ6_bitCount_0f7a4_17 : decode cJ6_bitCount_0f7a4 17 = .ok (.iushr, 1) := by decide +kernel
theorem dJ6_bitCount_0f7a4_18 : decode cJ6_bitCount_0f7a4 18 = .ok (.ldc_w 266, 3) := by decide +kernel
theorem dJ6_bitCount_0f7a4_21 : decode cJ6_bitCount_0f7a4 21 = .ok (.iand, 1) := by decide +kernel
theorem dJ6_bitCount_0f7a4_22 : decode cJ6_bitCount_0f7a4 22 = .ok (.iadd, 1) := by decide +kernel
theorem dJ6_bitCount_0f7a4_23 : decode cJ6_bitCount_0f7a4 23 = .ok (.istore_n 0, 1) := by decide +kernel
theorem dJ6_bitCount_0f7a4_24 : decode cJ6_bitCount_0f7a4 24 = .ok (.iload_n 0, 1) := by decide +kernel
theorem dJ6_bitCount_0f7a4_25 : decode cJ6_bitCount_0f7a4 25 = .ok (.iload_n 0, 1) := by decide +kernel
theorem dJ6_bitCount_0f7a4_26 : decode cJ6_bitCount_0f7a4 26 = .ok (.iconst 4, 1) := by decide +kernel
theorem dJ6_bitCount_0f7a4_27 : decode cJ6_bitCount_0f7a4 27 = .ok (.iushr, 1) := by decide +kernel
theorem dJ6_bitCount_0f7a4_28 : decode cJ6_bitCount_0f7a4 28 = .ok (.iadd, 1) := by decide +kernel
theorem dJ6_bitCount_0f7a4_29 : decode cJ6_bitCount_0f7a4 29 = .ok (.ldc_w 267, 3) := by decide +kernel
theorem dJ6_bitCount_0f7a4_32 : decode cJ6_bitCount_0f7a4 32 = .ok (.iand, 1) := by decide +kernel
theorem dJ6_bitCount_0f7a4_33 : decode cJ6_bitCount_0f7a4 33 = .ok (.istore_n 0, 1) := by decide +kernel
theorem dJ6_bitCount_0f7a4_34 : decode cJ6_bitCount_0f7a4 34 = .ok (.iload_n 0, 1) := by decide +kernel
theorem dJ6_bitCount_0f7a4_35 : decode cJ6_bitCount_0f7a4 35 = .ok (.iload_n 0, 1) := by decide +kernel
theorem dJ6_bitCount_0f7a4_36 : decode cJ6_bitCount_0f7a4 36 = .ok (.bipush 8, 2) := by decide +kernel
theorem dJ6_bitCount_0f7a4_38 : decode cJ6_bitCount_0f7a4 38 = .ok (.iushr, 1) := by decide +kernel
theorem dJ6_bitCount_0f7a4_39 : decode cJ6_bitCount_0f7a4 39 = .ok (.iadd, 1) := by decide +kernel
theorem dJ6_bitCount_0f7a4_40 : decode cJ6_bitCount_0f7a4 40 = .ok (.istore_n 0, 1) := by decide +kernel
theorem dJ6_bitCount_0f7a4_41 : decode cJ6_bitCount_0f7a4 41 = .ok (.iload_n 0, 1) := by decide +kernel
theorem dJ6_bitCount_0f7a4_42 : decode cJ6_bitCount_0f7a4 42 = .ok (.iload_n 0, 1) := by decide +kernel
theorem dJ6_bitCount_0f7a4_43 : decode cJ6_bitCount_0f7a4 43 = .ok (.bipush 16, 2) := by decide +kernel
theorem dJ6_bitCount_0f7a4_45 : decode cJ6_bitCount_0f7a4 45 = .ok (.iushr, 1) := by decide +kernel
theorem dJ6_bitCount_0f7a4_46 : decode cJ6_bitCount_0f7a4 46 = .ok (.iadd, 1) := by decide +kernel
theorem dJ6_bitCount_0f7a4_47 : decode cJ6_bitCount_0f7a4 47 = .ok (.istore_n 0, 1) := by decide +kernel
theorem dJ6_bitCount_0f7a4_48 : decode cJ6_bitCount_0f7a4 48 = .ok (.iload_n 0, 1) := by decide +kernel
theorem dJ6_bitCount_0f7a4_49 : decode cJ6_bitCount_0f7a4 49 = .ok (.bipush 63, 2) := by decide +kernel
theorem dJ6_bitCount_0f7a4_51 : decode cJ6_bitCount_0f7a4 51 = .ok (.iand, 1) := by decide +kernel
theorem dJ6_bitCount_0f7a4_52 : decode cJ6_bitCount_0f7a4 52 = .ok (.ireturn, 1) := by decide +kernel
theorem dJ9_abs_0f7a4_0 : decode cJ9_abs_0f7a4 0 = .ok (.iload_n 0, 1) := by decide +kernel
theorem dJ9_abs_0f7a4_1 : decode cJ9_abs_0f7a4 1 = .ok (.ifCond .ge 8, 3) := by decide +kernel
theorem dJ9_abs_0f7a4_4 : decode cJ9_abs_0f7a4 4 = .ok (.iload_n 0, 1) := by decide +kernel
theorem dJ9_abs_0f7a4_5 : decode cJ9_abs_0f7a4 5 = .ok (.ineg, 1) := by decide +kernel
theorem dJ9_abs_0f7a4_6 : decode cJ9_abs_0f7a4 6 = .ok (.goto 4, 3) := by decide +kernel
theorem dJ9_abs_0f7a4_9 : decode cJ9_abs_0f7a4 9 = .ok (.iload_n 0, 1) := by decide +kernel
theorem dJ9_abs_0f7a4_10 : decode cJ9_abs_0f7a4 10 = .ok (.ireturn, 1) := by decide +kernel
theorem dJ9_max_7cf53_0 : decode cJ9_max_7cf53 0 = .ok (.iload_n 0, 1) := by decide +kernel
theorem dJ9_max_7cf53_1 : decode cJ9_max_7cf53 1 = .ok (.iload_n 1, 1) := by decide +kernel
theorem dJ9_max_7cf53_2 : decode cJ9_max_7cf53 2 = .ok (.if_icmp .lt 7, 3) := by decide +kernel
theorem dJ9_max_7cf53_5 : decode cJ9_max_7cf53 5 = .ok (.iload_n 0, 1) := by decide +kernel
theorem dJ9_max_7cf53_6 : decode cJ9_max_7cf53 6 = .ok (.goto 4, 3) := by decide +kernel
theorem dJ9_max_7cf53_9 : decode cJ9_max_7cf53 9 = .ok (.iload_n 1, 1) := by decide +kernel
theorem dJ9_max_7cf53_10 : decode cJ9_max_7cf53 10 = .ok (.ireturn, 1) := by decide +kernel
theorem dJ9_min_7cf53_0 : decode cJ9_min_7cf53 0 = .ok (.iload_n 0, 1) := by decide +kernel
theorem dJ9_min_7cf53_1 : decode cJ9_min_7cf53 1 = .ok (.iload_n 1, 1) := by decide +kernel
theorem dJ9_min_7cf53_2 : decode cJ9_min_7cf53 2 = .ok (.if_icmp .gt 7, 3) := by decide +kernel
theorem dJ9_min_7cf53_5 : decode cJ9_min_7cf53 5 = .ok (.iload_n 0, 1) := by decide +kernel
theorem dJ9_min_7cf53_6 : decode cJ9_min_7cf53 6 = .ok (.goto 4, 3) := by decide +kernel
theorem dJ9_min_7cf53_9 : decode cJ9_min_7cf53 9 = .ok (.iload_n 1, 1) := by decide +kernel
theorem dJ9_min_7cf53_10 : decode cJ9_min_7cf53 10 = .ok (.ireturn, 1) := by decide +kernel
theorem dL_law_0 : decode cL_law 0 = .ok (.new 7, 3) := by decide +kernel
theorem dL_law_3 : decode cL_law 3 = .ok (.dup, 1) := by decide +kernel
theorem dL_law_4 : decode cL_law 4 = .ok (.invokespecial 9, 3) := by decide +kernel
theorem dL_law_7 : decode cL_law 7 = .ok (.astore_n 1, 1) := by decide +kernel
theorem dL_law_8 : decode cL_law 8 = .ok (.new 10, 3) := by decide +kernel
theorem dL_law_11 : decode cL_law 11 = .ok (.dup, 1) := by decide +kernel
theorem dL_law_12 : decode cL_law 12 = .ok (.invokespecial 12, 3) := by decide +kernel
theorem dL_law_15 : decode cL_law 15 = .ok (.astore_n 2, 1) := by decide +kernel
theorem dL_law_16 : decode cL_law 16 = .ok (.iconst 0, 1) := by decide +kernel
theorem dL_law_17 : decode cL_law 17 = .ok (.istore_n 3, 1) := by decide +kernel
theorem dL_law_18 : decode cL_law 18 = .ok (.iload_n 3, 1) := by decide +kernel
theorem dL_law_19 : decode cL_law 19 = .ok (.aload_n 0, 1) := by decide +kernel
theorem dL_law_20 : decode cL_law 20 = .ok (.arraylength, 1) := by decide +kernel
theorem dL_law_21 : decode cL_law 21 = .ok (.iconst 5, 1) := by decide +kernel
theorem dL_law_22 : decode cL_law 22 = .ok (.isub, 1) := by decide +kernel
theorem dL_law_23 : decode cL_law 23 = .ok (.if_icmp .gt 800, 3) := by decide +kernel
theorem dL_law_26 : decode cL_law 26 = .ok (.aload_n 0, 1) := by decide +kernel
theorem dL_law_27 : decode cL_law 27 = .ok (.iload_n 3, 1) := by decide +kernel
theorem dL_law_28 : decode cL_law 28 = .ok (.iaload, 1) := by decide +kernel
theorem dL_law_29 : decode cL_law 29 = .ok (.bipush 31, 2) := by decide +kernel
theorem dL_law_31 : decode cL_law 31 = .ok (.iand, 1) := by decide +kernel
theorem dL_law_32 : decode cL_law 32 = .ok (.tableswitch 785 0 26 #[124, 147, 160, 173, 206, 229, 262, 315, 338, 361, 394, 407, 450, 473, 496, 529, 562, 585, 618, 631, 644, 657, 690, 703, 716, 739, 762], 124) := by decide +kernel
theorem dL_law_156 : decode cL_law 156 = .ok (.aload_n 1, 1) := by decide +kernel
theorem dL_law_157 : decode cL_law 157 = .ok (.aload_n 0, 1) := by decide +kernel
theorem dL_law_158 : decode cL_law 158 = .ok (.iload_n 3, 1) := by decide +kernel
theorem dL_law_159 : decode cL_law 159 = .ok (.iconst 1, 1) := by decide +kernel
theorem dL_law_160 : decode cL_law 160 = .ok (.iadd, 1) := by decide +kernel
theorem dL_law_161 : decode cL_law 161 = .ok (.iaload, 1) := by decide +kernel
theorem dL_law_162 : decode cL_law 162 = .ok (.invokevirtual 13, 3) := by decide +kernel
theorem dL_law_165 : decode cL_law 165 = .ok (.aload_n 2, 1) := by decide +kernel
theorem dL_law_166 : decode cL_law 166 = .ok (.aload_n 0, 1) := by decide +kernel
theorem dL_law_167 : decode cL_law 167 = .ok (.iload_n 3, 1) := by decide +kernel
theorem dL_law_168 : decode cL_law 168 = .ok (.iconst 1, 1) := by decide +kernel
theorem dL_law_169 : decode cL_law 169 = .ok (.iadd, 1) := by decide +kernel
theorem dL_law_170 : decode cL_law 170 = .ok (.iaload, 1) := by decide +kernel
theorem dL_law_171 : decode cL_law 171 = .ok (.invokevirtual 17, 3) := by decide +kernel
theorem dL_law_174 : decode cL_law 174 = .ok (.if_icmp .eq 643, 3) := by decide +kernel
theorem dL_law_177 : decode cL_law 177 = .ok (.iconst 0, 1) := by decide +kernel
theorem dL_law_178 : decode cL_law 178 = .ok (.ireturn, 1) := by decide +kernel
theorem dL_law_179 : decode cL_law 179 = .ok (.aload_n 1, 1) := by decide +kernel
theorem dL_law_180 : decode cL_law 180 = .ok (.invokevirtual 18, 3) := by decide +kernel
theorem dL_law_183 : decode cL_law 183 = .ok (.aload_n 2, 1) := by decide +kernel
theorem dL_law_184 : decode cL_law 184 = .ok (.invokevirtual 22, 3) := by decide +kernel
theorem dL_law_187 : decode cL_law 187 = .ok (.if_icmp .eq 630, 3) := by decide +kernel
theorem dL_law_190 : decode cL_law 190 = .ok (.iconst 0, 1) := by decide +kernel
theorem dL_law_191 : decode cL_law 191 = .ok (.ireturn, 1) := by decide +kernel
theorem dL_law_192 : decode cL_law 192 = .ok (.aload_n 1, 1) := by decide +kernel
theorem dL_law_193 : decode cL_law 193 = .ok (.invokevirtual 23, 3) := by decide +kernel
theorem dL_law_196 : decode cL_law 196 = .ok (.aload_n 2, 1) := by decide +kernel
theorem dL_law_197 : decode cL_law 197 = .ok (.invokevirtual 26, 3) := by decide +kernel
theorem dL_law_200 : decode cL_law 200 = .ok (.if_icmp .eq 617, 3) := by decide +kernel
theorem dL_law_203 : decode cL_law 203 = .ok (.iconst 0, 1) := by decide +kernel
theorem dL_law_204 : decode cL_law 204 = .ok (.ireturn, 1) := by decide +kernel
theorem dL_law_205 : decode cL_law 205 = .ok (.aload_n 1, 1) := by decide +kernel
theorem dL_law_206 : decode cL_law 206 = .ok (.aload_n 0, 1) := by decide +kernel
theorem dL_law_207 : decode cL_law 207 = .ok (.iload_n 3, 1) := by decide +kernel
theorem dL_law_208 : decode cL_law 208 = .ok (.iconst 1, 1) := by decide +kernel
theorem dL_law_209 : decode cL_law 209 = .ok (.iadd, 1) := by decide +kernel
theorem dL_law_210 : decode cL_law 210 = .ok (.iaload, 1) := by decide +kernel
theorem dL_law_211 : decode cL_law 211 = .ok (.aload_n 0, 1) := by decide +kernel
theorem dL_law_212 : decode cL_law 212 = .ok (.iload_n 3, 1) := by decide +kernel
theorem dL_law_213 : decode cL_law 213 = .ok (.iconst 2, 1) := by decide +kernel
theorem dL_law_214 : decode cL_law 214 = .ok (.iadd, 1) := by decide +kernel
theorem dL_law_215 : decode cL_law 215 = .ok (.iaload, 1) := by decide +kernel
theorem dL_law_216 : decode cL_law 216 = .ok (.invokevirtual 27, 3) := by decide +kernel
theorem dL_law_219 : decode cL_law 219 = .ok (.aload_n 2, 1) := by decide +kernel
theorem dL_law_220 : decode cL_law 220 = .ok (.aload_n 0, 1) := by decide +kernel
theorem dL_law_221 : decode cL_law 221 = .ok (.iload_n 3, 1) := by decide +kernel
theorem dL_law_222 : decode cL_law 222 = .ok (.iconst 1, 1) := by decide +kernel
theorem dL_law_223 : decode cL_law 223 = .ok (.iadd, 1) := by decide +kernel
theorem dL_law_224 : decode cL_law 224 = .ok (.iaload, 1) := by decide +kernel
theorem dL_law_225 : decode cL_law 225 = .ok (.aload_n 0, 1) := by decide +kernel
theorem dL_law_226 : decode cL_law 226 = .ok (.iload_n 3, 1) := by decide +kernel
theorem dL_law_227 : decode cL_law 227 = .ok (.iconst 2, 1) := by decide +kernel
theorem dL_law_228 : decode cL_law 228 = .ok (.iadd, 1) := by decide +kernel
theorem dL_law_229 : decode cL_law 229 = .ok (.iaload, 1) := by decide +kernel
theorem dL_law_230 : decode cL_law 230 = .ok (.invokevirtual 31, 3) := by decide +kernel
theorem dL_law_233 : decode cL_law 233 = .ok (.if_icmp .eq 584, 3) := by decide +kernel
theorem dL_law_236 : decode cL_law 236 = .ok (.iconst 0, 1) := by decide +kernel
theorem dL_law_237 : decode cL_law 237 = .ok (.ireturn, 1) := by decide +kernel
theorem dL_law_238 : decode cL_law 238 = .ok (.aload_n 1, 1) := by decide +kernel
theorem dL_law_239 : decode cL_law 239 = .ok (.aload_n 0, 1) := by decide +kernel
theorem dL_law_240 : decode cL_law 240 = .ok (.iload_n 3, 1) := by decide +kernel
theorem dL_law_241 : decode cL_law 241 = .ok (.iconst 1, 1) := by decide +kernel
theorem dL_law_242 : decode cL_law 242 = .ok (.iadd, 1) := by decide +kernel
theorem dL_law_243 : decode cL_law 243 = .ok (.iaload, 1) := by decide +kernel
theorem dL_law_244 : decode cL_law 244 = .ok (.invokevirtual 32, 3) := by decide +kernel
theorem dL_law_247 : decode cL_law 247 = .ok (.aload_n 2, 1) := by decide +kernel
theorem dL_law_248 : decode cL_law 248 = .ok (.aload_n 0, 1) := by decide +kernel
theorem dL_law_249 : decode cL_law 249 = .ok (.iload_n 3, 1) := by decide +kernel
theorem dL_law_250 : decode cL_law 250 = .ok (.iconst 1, 1) := by decide +kernel
theorem dL_law_251 : decode cL_law 251 = .ok (.iadd, 1) := by decide +kernel
theorem dL_law_252 : decode cL_law 252 = .ok (.iaload, 1) := by decide +kernel
theorem dL_law_253 : decode cL_law 253 = .ok (.invokevirtual 35, 3) := by decide +kernel
theorem dL_law_256 : decode cL_law 256 = .ok (.if_icmp .eq 561, 3) := by decide +kernel
theorem dL_law_259 : decode cL_law 259 = .ok (.iconst 0, 1) := by decide +kernel
theorem dL_law_260 : decode cL_law 260 = .ok (.ireturn, 1) := by decide +kernel
theorem dL_law_261 : decode cL_law 261 = .ok (.aload_n 1, 1) := by decide +kernel
theorem dL_law_262 : decode cL_law 262 = .ok (.aload_n 0, 1) := by decide +kernel
theorem dL_law_263 : decode cL_law 263 = .ok (.iload_n 3, 1) := by decide +kernel
theorem dL_law_264 : decode cL_law 264 = .ok (.iconst 1, 1) := by decide +kernel
theorem dL_law_265 : decode cL_law 265 = .ok (.iadd, 1) := by decide +kernel
theorem dL_law_266 : decode cL_law 266 = .ok (.iaload, 1) := by decide +kernel
theorem dL_law_267 : decode cL_law 267 = .ok (.aload_n 0, 1) := by decide +kernel
theorem dL_law_268 : decode cL_law 268 = .ok (.iload_n 3, 1) := by decide +kernel
theorem dL_law_269 : decode cL_law 269 = .ok (.iconst 2, 1) := by decide +kernel
theorem dL_law_270 : decode cL_law 270 = .ok (.iadd, 1) := by decide +kernel
theorem dL_law_271 : decode cL_law 271 = .ok (.iaload, 1) := by decide +kernel
theorem dL_law_272 : decode cL_law 272 = .ok (.invokevirtual 36, 3) := by decide +kernel
theorem dL_law_275 : decode cL_law 275 = .ok (.aload_n 2, 1) := by decide +kernel
theorem dL_law_276 : decode cL_law 276 = .ok (.aload_n 0, 1) := by decide +kernel
theorem dL_law_277 : decode cL_law 277 = .ok (.iload_n 3, 1) := by decide +kernel
theorem dL_law_278 : decode cL_law 278 = .ok (.iconst 1, 1) := by decide +kernel
theorem dL_law_279 : decode cL_law 279 = .ok (.iadd, 1) := by decide +kernel
theorem dL_law_280 : decode cL_law 280 = .ok (.iaload, 1) := by decide +kernel
theorem dL_law_281 : decode cL_law 281 = .ok (.aload_n 0, 1) := by decide +kernel
theorem dL_law_282 : decode cL_law 282 = .ok (.iload_n 3, 1) := by decide +kernel
theorem dL_law_283 : decode cL_law 283 = .ok (.iconst 2, 1) := by decide +kernel
theorem dL_law_284 : decode cL_law 284 = .ok (.iadd, 1) := by decide +kernel
theorem dL_law_285 : decode cL_law 285 = .ok (.iaload, 1) := by decide +kernel
theorem dL_law_286 : decode cL_law 286 = .ok (.invokevirtual 39, 3) := by decide +kernel
theorem dL_law_289 : decode cL_law 289 = .ok (.if_icmp .eq 528, 3) := by decide +kernel
theorem dL_law_292 : decode cL_law 292 = .ok (.iconst 0, 1) := by decide +kernel
theorem dL_law_293 : decode cL_law 293 = .ok (.ireturn, 1) := by decide +kernel
theorem dL_law_294 : decode cL_law 294 = .ok (.aload_n 1, 1) := by decide +kernel
theorem dL_law_295 : decode cL_law 295 = .ok (.aload_n 0, 1) := by decide +kernel
theorem dL_law_296 : decode cL_law 296 = .ok (.iload_n 3, 1) := by decide +kernel
theorem dL_law_297 : decode cL_law 297 = .ok (.iconst 1, 1) := by decide +kernel
theorem dL_law_298 : decode cL_law 298 = .ok (.iadd, 1) := by decide +kernel
theorem dL_law_299 : decode cL_law 299 = .ok (.iaload, 1) := by decide +kernel
theorem dL_law_300 : decode cL_law 300 = .ok (.aload_n 0, 1) := by decide +kernel
theorem dL_law_301 : decode cL_law 301 = .ok (.iload_n 3, 1) := by decide +kernel
theorem dL_law_302 : decode cL_law 302 = .ok (.iconst 2, 1) := by decide +kernel
theorem dL_law_303 : decode cL_law 303 = .ok (.iadd, 1) := by decide +kernel
theorem dL_law_304 : decode cL_law 304 = .ok (.iaload, 1) := by decide +kernel
theorem dL_law_305 : decode cL_law 305 = .ok (.aload_n 0, 1) := by decide +kernel
theorem dL_law_306 : decode cL_law 306 = .ok (.iload_n 3, 1) := by decide +kernel
theorem dL_law_307 : decode cL_law 307 = .ok (.iconst 3, 1) := by decide +kernel
theorem dL_law_308 : decode cL_law 308 = .ok (.iadd, 1) := by decide +kernel
theorem dL_law_309 : decode cL_law 309 = .ok (.iaload, 1) := by decide +kernel
theorem dL_law_310 : decode cL_law 310 = .ok (.aload_n 0, 1) := by decide +kernel
theorem dL_law_311 : decode cL_law 311 = .ok (.iload_n 3, 1) := by decide +kernel
theorem dL_law_312 : decode cL_law 312 = .ok (.iconst 4, 1) := by decide +kernel
theorem dL_law_313 : decode cL_law 313 = .ok (.iadd, 1) := by decide +kernel
theorem dL_law_314 : decode cL_law 314 = .ok (.iaload, 1) := by decide +kernel
theorem dL_law_315 : decode cL_law 315 = .ok (.invokevirtual 40, 3) := by decide +kernel
theorem dL_law_318 : decode cL_law 318 = .ok (.aload_n 2, 1) := by decide +kernel
theorem dL_law_319 : decode cL_law 319 = .ok (.aload_n 0, 1) := by decide +kernel
theorem dL_law_320 : decode cL_law 320 = .ok (.iload_n 3, 1) := by decide +kernel
theorem dL_law_321 : decode cL_law 321 = .ok (.iconst 1, 1) := by decide +kernel
theorem dL_law_322 : decode cL_law 322 = .ok (.iadd, 1) := by decide +kernel
theorem dL_law_323 : decode cL_law 323 = .ok (.iaload, 1) := by decide +kernel
theorem dL_law_324 : decode cL_law 324 = .ok (.aload_n 0, 1) := by decide +kernel
theorem dL_law_325 : decode cL_law 325 = .ok (.iload_n 3, 1) := by decide +kernel
theorem dL_law_326 : decode cL_law 326 = .ok (.iconst 2, 1) := by decide +kernel
theorem dL_law_327 : decode cL_law 327 = .ok (.iadd, 1) := by decide +kernel
theorem dL_law_328 : decode cL_law 328 = .ok (.iaload, 1) := by decide +kernel
theorem dL_law_329 : decode cL_law 329 = .ok (.aload_n 0, 1) := by decide +kernel
theorem dL_law_330 : decode cL_law 330 = .ok (.iload_n 3, 1) := by decide +kernel
theorem dL_law_331 : decode cL_law 331 = .ok (.iconst 3, 1) := by decide +kernel
theorem dL_law_332 : decode cL_law 332 = .ok (.iadd, 1) := by decide +kernel
theorem dL_law_333 : decode cL_law 333 = .ok (.iaload, 1) := by decide +kernel
theorem dL_law_334 : decode cL_law 334 = .ok (.aload_n 0, 1) := by decide +kernel
theorem dL_law_335 : decode cL_law 335 = .ok (.iload_n 3, 1) := by decide +kernel
theorem dL_law_336 : decode cL_law 336 = .ok (.iconst 4, 1) := by decide +kernel
theorem dL_law_337 : decode cL_law 337 = .ok (.iadd, 1) := by decide +kernel
theorem dL_law_338 : decode cL_law 338 = .ok (.iaload, 1) := by decide +kernel
theorem dL_law_339 : decode cL_law 339 = .ok (.invokevirtual 44, 3) := by decide +kernel
theorem dL_law_342 : decode cL_law 342 = .ok (.if_icmp .eq 475, 3) := by decide +kernel
theorem dL_law_345 : decode cL_law 345 = .ok (.iconst 0, 1) := by decide +kernel
theorem dL_law_346 : decode cL_law 346 = .ok (.ireturn, 1) := by decide +kernel
theorem dL_law_347 : decode cL_law 347 = .ok (.aload_n 1, 1) := by decide +kernel
theorem dL_law_348 : decode cL_law 348 = .ok (.aload_n 0, 1) := by decide +kernel
theorem dL_law_349 : decode cL_law 349 = .ok (.iload_n 3, 1) := by decide +kernel
theorem dL_law_350 : decode cL_law 350 = .ok (.iconst 1, 1) := by decide +kernel
theorem dL_law_351 : decode cL_law 351 = .ok (.iadd, 1) := by decide +kernel
theorem dL_law_352 : decode cL_law 352 = .ok (.iaload, 1) := by decide +kernel
theorem dL_law_353 : decode cL_law 353 = .ok (.invokevirtual 45, 3) := by decide +kernel
theorem dL_law_356 : decode cL_law 356 = .ok (.aload_n 2, 1) := by decide +kernel
theorem dL_law_357 : decode cL_law 357 = .ok (.aload_n 0, 1) := by decide +kernel
theorem dL_law_358 : decode cL_law 358 = .ok (.iload_n 3, 1) := by decide +kernel
theorem dL_law_359 : decode cL_law 359 = .ok (.iconst 1, 1) := by decide +kernel
theorem dL_law_360 : decode cL_law 360 = .ok (.iadd, 1) := by decide +kernel
theorem dL_law_361 : decode cL_law 361 = .ok (.iaload, 1) := by decide +kernel
theorem dL_law_362 : decode cL_law 362 = .ok (.invokevirtual 48, 3) := by decide +kernel
theorem dL_law_365 : decode cL_law 365 = .ok (.if_icmp .eq 452, 3) := by decide +kernel
theorem dL_law_368 : decode cL_law 368 = .ok (.iconst 0, 1) := by decide +kernel
theorem dL_law_369 : decode cL_law 369 = .ok (.ireturn, 1) := by decide +kernel
theorem dL_law_370 : decode cL_law 370 = .ok (.aload_n 1, 1) := by decide +kernel
theorem dL_law_371 : decode cL_law 371 = .ok (.aload_n 0, 1) := by decide +kernel
theorem dL_law_372 : decode cL_law 372 = .ok (.iload_n 3, 1) := by decide +kernel
theorem dL_law_373 : decode cL_law 373 = .ok (.iconst 1, 1) := by decide +kernel
theorem dL_law_374 : decode cL_law 374 = .ok (.iadd, 1) := by decide +kernel
theorem dL_law_375 : decode cL_law 375 = .ok (.iaload, 1) := by decide +kernel
theorem dL_law_376 : decode cL_law 376 = .ok (.invokevirtual 49, 3) := by decide +kernel
theorem dL_law_379 : decode cL_law 379 = .ok (.aload_n 2, 1) := by decide +kernel
theorem dL_law_380 : decode cL_law 380 = .ok (.aload_n 0, 1) := by decide +kernel
theorem dL_law_381 : decode cL_law 381 = .ok (.iload_n 3, 1) := by decide +kernel
theorem dL_law_382 : decode cL_law 382 = .ok (.iconst 1, 1) := by decide +kernel
theorem dL_law_383 : decode cL_law 383 = .ok (.iadd, 1) := by decide +kernel
theorem dL_law_384 : decode cL_law 384 = .ok (.iaload, 1) := by decide +kernel
theorem dL_law_385 : decode cL_law 385 = .ok (.invokevirtual 52, 3) := by decide +kernel
theorem dL_law_388 : decode cL_law 388 = .ok (.if_icmp .eq 429, 3) := by decide +kernel
theorem dL_law_391 : decode cL_law 391 = .ok (.iconst 0, 1) := by decide +kernel
theorem dL_law_392 : decode cL_law 392 = .ok (.ireturn, 1) := by decide +kernel
theorem dL_law_393 : decode cL_law 393 = .ok (.aload_n 1, 1) := by decide +kernel
theorem dL_law_394 : decode cL_law 394 = .ok (.aload_n 0, 1) := by decide +kernel
theorem dL_law_395 : decode cL_law 395 = .ok (.iload_n 3, 1) := by decide +kernel
theorem dL_law_396 : decode cL_law 396 = .ok (.iconst 1, 1) := by decide +kernel
theorem dL_law_397 : decode cL_law 397 = .ok (.iadd, 1) := by decide +kernel
theorem dL_law_398 : decode cL_law 398 = .ok (.iaload, 1) := by decide +kernel
theorem dL_law_399 : decode cL_law 399 = .ok (.aload_n 0, 1) := by decide +kernel
theorem dL_law_400 : decode cL_law 400 = .ok (.iload_n 3, 1) := by decide +kernel
theorem dL_law_401 : decode cL_law 401 = .ok (.iconst 2, 1) := by decide +kernel
theorem dL_law_402 : decode cL_law 402 = .ok (.iadd, 1) := by decide +kernel
theorem dL_law_403 : decode cL_law 403 = .ok (.iaload, 1) := by decide +kernel
theorem dL_law_404 : decode cL_law 404 = .ok (.invokevirtual 53, 3) := by decide +kernel
theorem dL_law_407 : decode cL_law 407 = .ok (.aload_n 2, 1) := by decide +kernel
theorem dL_law_408 : decode cL_law 408 = .ok (.aload_n 0, 1) := by decide +kernel
theorem dL_law_409 : decode cL_law 409 = .ok (.iload_n 3, 1) := by decide +kernel
theorem dL_law_410 : decode cL_law 410 = .ok (.iconst 1, 1) := by decide +kernel
theorem dL_law_411 : decode cL_law 411 = .ok (.iadd, 1) := by decide +kernel
theorem dL_law_412 : decode cL_law 412 = .ok (.iaload, 1) := by decide +kernel
theorem dL_law_413 : decode cL_law 413 = .ok (.aload_n 0, 1) := by decide +kernel
theorem dL_law_414 : decode cL_law 414 = .ok (.iload_n 3, 1) := by decide +kernel
theorem dL_law_415 : decode cL_law 415 = .ok (.iconst 2, 1) := by decide +kernel
theorem dL_law_416 : decode cL_law 416 = .ok (.iadd, 1) := by decide +kernel
theorem dL_law_417 : decode cL_law 417 = .ok (.iaload, 1) := by decide +kernel
theorem dL_law_418 : decode cL_law 418 = .ok (.invokevirtual 56, 3) := by decide +kernel
theorem dL_law_421 : decode cL_law 421 = .ok (.if_icmp .eq 396, 3) := by decide +kernel
theorem dL_law_424 : decode cL_law 424 = .ok (.iconst 0, 1) := by decide +kernel
theorem dL_law_425 : decode cL_law 425 = .ok (.ireturn, 1) := by decide +kernel
theorem dL_law_426 : decode cL_law 426 = .ok (.aload_n 1, 1) := by decide +kernel
theorem dL_law_427 : decode cL_law 427 = .ok (.invokevirtual 57, 3) := by decide +kernel
theorem dL_law_430 : decode cL_law 430 = .ok (.aload_n 2, 1) := by decide +kernel
theorem dL_law_431 : decode cL_law 431 = .ok (.invokevirtual 60, 3) := by decide +kernel
theorem dL_law_434 : decode cL_law 434 = .ok (.if_icmp .eq 383, 3) := by decide +kernel
theorem dL_law_437 : decode cL_law 437 = .ok (.iconst 0, 1) := by decide +kernel
theorem dL_law_438 : decode cL_law 438 = .ok (.ireturn, 1) := by decide +kernel
theorem dL_law_439 : decode cL_law 439 = .ok (.aload_n 1, 1) := by decide +kernel
theorem dL_law_440 : decode cL_law 440 = .ok (.aload_n 0, 1) := by decide +kernel
theorem dL_law_441 : decode cL_law 441 = .ok (.iload_n 3, 1) := by decide +kernel
theorem dL_law_442 : decode cL_law 442 = .ok (.iconst 1, 1) := by decide +kernel
theorem dL_law_443 : decode cL_law 443 = .ok (.iadd, 1) := by decide +kernel
theorem dL_law_444 : decode cL_law 444 = .ok (.iaload, 1) := by decide +kernel
theorem dL_law_445 : decode cL_law 445 = .ok (.aload_n 0, 1) := by decide +kernel
theorem dL_law_446 : decode cL_law 446 = .ok (.iload_n 3, 1) := by decide +kernel
theorem dL_law_447 : decode cL_law 447 = .ok (.iconst 2, 1) := by decide +kernel
theorem dL_law_448 : decode cL_law 448 = .ok (.iadd, 1) := by decide +kernel
theorem dL_law_449 : decode cL_law 449 = .ok (.iaload, 1) := by decide +kernel
theorem dL_law_450 : decode cL_law 450 = .ok (.aload_n 0, 1) := by decide +kernel
theorem dL_law_451 : decode cL_law 451 = .ok (.iload_n 3, 1) := by decide +kernel
theorem dL_law_452 : decode cL_law 452 = .ok (.iconst 3, 1) := by decide +kernel
theorem dL_law_453 : decode cL_law 453 = .ok (.iadd, 1) := by decide +kernel
theorem dL_law_454 : decode cL_law 454 = .ok (.iaload, 1) := by decide +kernel
theorem dL_law_455 : decode cL_law 455 = .ok (.invokevirtual 61, 3) := by decide +kernel
theorem dL_law_458 : decode cL_law 458 = .ok (.aload_n 2, 1) := by decide +kernel
theorem dL_law_459 : decode cL_law 459 = .ok (.aload_n 0, 1) := by decide +kernel
theorem dL_law_460 : decode cL_law 460 = .ok (.iload_n 3, 1) := by decide +kernel
theorem dL_law_461 : decode cL_law 461 = .ok (.iconst 1, 1) := by decide +kernel
theorem dL_law_462 : decode cL_law 462 = .ok (.iadd, 1) := by decide +kernel
theorem dL_law_463 : decode cL_law 463 = .ok (.iaload, 1) := by decide +kernel
theorem dL_law_464 : decode cL_law 464 = .ok (.aload_n 0, 1) := by decide +kernel
theorem dL_law_465 : decode cL_law 465 = .ok (.iload_n 3, 1) := by decide +kernel
theorem dL_law_466 : decode cL_law 466 = .ok (.iconst 2, 1) := by decide +kernel
theorem dL_law_467 : decode cL_law 467 = .ok (.iadd, 1) := by decide +kernel
theorem dL_law_468 : decode cL_law 468 = .ok (.iaload, 1) := by decide +kernel
theorem dL_law_469 : decode cL_law 469 = .ok (.aload_n 0, 1) := by decide +kernel
theorem dL_law_470 : decode cL_law 470 = .ok (.iload_n 3, 1) := by decide +kernel
theorem dL_law_471 : decode cL_law 471 = .ok (.iconst 3, 1) := by decide +kernel
theorem dL_law_472 : decode cL_law 472 = .ok (.iadd, 1) := by decide +kernel
theorem dL_law_473 : decode cL_law 473 = .ok (.iaload, 1) := by decide +kernel
theorem dL_law_474 : decode cL_law 474 = .ok (.invokevirtual 65, 3) := by decide +kernel
theorem dL_law_477 : decode cL_law 477 = .ok (.if_icmp .eq 340, 3) := by decide +kernel
theorem dL_law_480 : decode cL_law 480 = .ok (.iconst 0, 1) := by decide +kernel
theorem dL_law_481 : decode cL_law 481 = .ok (.ireturn, 1) := by decide +kernel
theorem dL_law_482 : decode cL_law 482 = .ok (.aload_n 1, 1) := by decide +kernel
theorem dL_law_483 : decode cL_law 483 = .ok (.aload_n 0, 1) := by decide +kernel
theorem dL_law_484 : decode cL_law 484 = .ok (.iload_n 3, 1) := by decide +kernel
theorem dL_law_485 : decode cL_law 485 = .ok (.iconst 1, 1) := by decide +kernel
theorem dL_law_486 : decode cL_law 486 = .ok (.iadd, 1) := by decide +kernel
theorem dL_law_487 : decode cL_law 487 = .ok (.iaload, 1) := by decide +kernel
theorem dL_law_488 : decode cL_law 488 = .ok (.invokevirtual 66, 3) := by decide +kernel
theorem dL_law_491 : decode cL_law 491 = .ok (.aload_n 2, 1) := by decide +kernel
theorem dL_law_492 : decode cL_law 492 = .ok (.aload_n 0, 1) := by decide +kernel
theorem dL_law_493 : decode cL_law 493 = .ok (.iload_n 3, 1) := by decide +kernel
theorem dL_law_494 : decode cL_law 494 = .ok (.iconst 1, 1) := by decide +kernel
theorem dL_law_495 : decode cL_law 495 = .ok (.iadd, 1) := by decide +kernel
theorem dL_law_496 : decode cL_law 496 = .ok (.iaload, 1) := by decide +kernel
theorem dL_law_497 : decode cL_law 497 = .ok (.invokevirtual 69, 3) := by decide +kernel
theorem dL_law_500 : decode cL_law 500 = .ok (.if_icmp .eq 317, 3) := by decide +kernel
theorem dL_law_503 : decode cL_law 503 = .ok (.iconst 0, 1) := by decide +kernel
theorem dL_law_504 : decode cL_law 504 = .ok (.ireturn, 1) := by decide +kernel
theorem dL_law_505 : decode cL_law 505 = .ok (.aload_n 1, 1) := by decide +kernel
theorem dL_law_506 : decode cL_law 506 = .ok (.aload_n 0, 1) := by decide +kernel
theorem dL_law_507 : decode cL_law 507 = .ok (.iload_n 3, 1) := by decide +kernel
theorem dL_law_508 : decode cL_law 508 = .ok (.iconst 1, 1) := by decide +kernel
theorem dL_law_509 : decode cL_law 509 = .ok (.iadd, 1) := by decide +kernel
theorem dL_law_510 : decode cL_law 510 = .ok (.iaload, 1) := by decide +kernel
theorem dL_law_511 : decode cL_law 511 = .ok (.invokevirtual 70, 3) := by decide +kernel
theorem dL_law_514 : decode cL_law 514 = .ok (.aload_n 2, 1) := by decide +kernel
theorem dL_law_515 : decode cL_law 515 = .ok (.aload_n 0, 1) := by decide +kernel
theorem dL_law_516 : decode cL_law 516 = .ok (.iload_n 3, 1) := by decide +kernel
theorem dL_law_517 : decode cL_law 517 = .ok (.iconst 1, 1) := by decide +kernel
theorem dL_law_518 : decode cL_law 518 = .ok (.iadd, 1) := by decide +kernel
theorem dL_law_519 : decode cL_law 519 = .ok (.iaload, 1) := by decide +kernel
theorem dL_law_520 : decode cL_law 520 = .ok (.invokevirtual 73, 3) := by decide +kernel
theorem dL_law_523 : decode cL_law 523 = .ok (.if_icmp .eq 294, 3) := by decide +kernel
theorem dL_law_526 : decode cL_law 526 = .ok (.iconst 0, 1) := by decide +kernel
theorem dL_law_527 : decode cL_law 527 = .ok (.ireturn, 1) := by decide +kernel
theorem dL_law_528 : decode cL_law 528 = .ok (.aload_n 1, 1) := by decide +kernel
theorem dL_law_529 : decode cL_law 529 = .ok (.aload_n 0, 1) := by decide +kernel
theorem dL_law_530 : decode cL_law 530 = .ok (.iload_n 3, 1) := by decide +kernel
theorem dL_law_531 : decode cL_law 531 = .ok (.iconst 1, 1) := by decide +kernel
theorem dL_law_532 : decode cL_law 532 = .ok (.iadd, 1) := by decide +kernel
theorem dL_law_533 : decode cL_law 533 = .ok (.iaload, 1) := by decide +kernel
theorem dL_law_534 : decode cL_law 534 = .ok (.aload_n 0, 1) := by decide +kernel
theorem dL_law_535 : decode cL_law 535 = .ok (.iload_n 3, 1) := by decide +kernel
theorem dL_law_536 : decode cL_law 536 = .ok (.iconst 2, 1) := by decide +kernel
theorem dL_law_537 : decode cL_law 537 = .ok (.iadd, 1) := by decide +kernel
theorem dL_law_538 : decode cL_law 538 = .ok (.iaload, 1) := by decide +kernel
theorem dL_law_539 : decode cL_law 539 = .ok (.invokevirtual 74, 3) := by decide +kernel
theorem dL_law_542 : decode cL_law 542 = .ok (.aload_n 2, 1) := by decide +kernel
theorem dL_law_543 : decode cL_law 543 = .ok (.aload_n 0, 1) := by decide +kernel
theorem dL_law_544 : decode cL_law 544 = .ok (.iload_n 3, 1) := by decide +kernel
theorem dL_law_545 : decode cL_law 545 = .ok (.iconst 1, 1) := by decide +kernel
theorem dL_law_546 : decode cL_law 546 = .ok (.iadd, 1) := by decide +kernel
theorem dL_law_547 : decode cL_law 547 = .ok (.iaload, 1) := by decide +kernel
theorem dL_law_548 : decode cL_law 548 = .ok (.aload_n 0, 1) := by decide +kernel
theorem dL_law_549 : decode cL_law 549 = .ok (.iload_n 3, 1) := by decide +kernel
theorem dL_law_550 : decode cL_law 550 = .ok (.iconst 2, 1) := by decide +kernel
theorem dL_law_551 : decode cL_law 551 = .ok (.iadd, 1) := by decide +kernel
theorem dL_law_552 : decode cL_law 552 = .ok (.iaload, 1) := by decide +kernel
theorem dL_law_553 : decode cL_law 553 = .ok (.invokevirtual 77, 3) := by decide +kernel
theorem dL_law_556 : decode cL_law 556 = .ok (.if_icmp .eq 261, 3) := by decide +kernel
theorem dL_law_559 : decode cL_law 559 = .ok (.iconst 0, 1) := by decide +kernel
theorem dL_law_560 : decode cL_law 560 = .ok (.ireturn, 1) := by decide +kernel
theorem dL_law_561 : decode cL_law 561 = .ok (.aload_n 1, 1) := by decide +kernel
theorem dL_law_562 : decode cL_law 562 = .ok (.aload_n 0, 1) := by decide +kernel
theorem dL_law_563 : decode cL_law 563 = .ok (.iload_n 3, 1) := by decide +kernel
theorem dL_law_564 : decode cL_law 564 = .ok (.iconst 1, 1) := by decide +kernel
theorem dL_law_565 : decode cL_law 565 = .ok (.iadd, 1) := by decide +kernel
theorem dL_law_566 : decode cL_law 566 = .ok (.iaload, 1) := by decide +kernel
theorem dL_law_567 : decode cL_law 567 = .ok (.aload_n 0, 1) := by decide +kernel
theorem dL_law_568 : decode cL_law 568 = .ok (.iload_n 3, 1) := by decide +kernel
theorem dL_law_569 : decode cL_law 569 = .ok (.iconst 2, 1) := by decide +kernel
theorem dL_law_570 : decode cL_law 570 = .ok (.iadd, 1) := by decide +kernel
theorem dL_law_571 : decode cL_law 571 = .ok (.iaload, 1) := by decide +kernel
theorem dL_law_572 : decode cL_law 572 = .ok (.invokevirtual 78, 3) := by decide +kernel
theorem dL_law_575 : decode cL_law 575 = .ok (.aload_n 2, 1) := by decide +kernel
theorem dL_law_576 : decode cL_law 576 = .ok (.aload_n 0, 1) := by decide +kernel
theorem dL_law_577 : decode cL_law 577 = .ok (.iload_n 3, 1) := by decide +kernel
theorem dL_law_578 : decode cL_law 578 = .ok (.iconst 1, 1) := by decide +kernel
theorem dL_law_579 : decode cL_law 579 = .ok (.iadd, 1) := by decide +kernel
theorem dL_law_580 : decode cL_law 580 = .ok (.iaload, 1) := by decide +kernel
theorem dL_law_581 : decode cL_law 581 = .ok (.aload_n 0, 1) := by decide +kernel
theorem dL_law_582 : decode cL_law 582 = .ok (.iload_n 3, 1) := by decide +kernel
theorem dL_law_583 : decode cL_law 583 = .ok (.iconst 2, 1) := by decide +kernel
theorem dL_law_584 : decode cL_law 584 = .ok (.iadd, 1) := by decide +kernel
theorem dL_law_585 : decode cL_law 585 = .ok (.iaload, 1) := by decide +kernel
theorem dL_law_586 : decode cL_law 586 = .ok (.invokevirtual 81, 3) := by decide +kernel
theorem dL_law_589 : decode cL_law 589 = .ok (.if_icmp .eq 228, 3) := by decide +kernel
theorem dL_law_592 : decode cL_law 592 = .ok (.iconst 0, 1) := by decide +kernel
theorem dL_law_593 : decode cL_law 593 = .ok (.ireturn, 1) := by decide +kernel
theorem dL_law_594 : decode cL_law 594 = .ok (.aload_n 1, 1) := by decide +kernel
theorem dL_law_595 : decode cL_law 595 = .ok (.aload_n 0, 1) := by decide +kernel
theorem dL_law_596 : decode cL_law 596 = .ok (.iload_n 3, 1) := by decide +kernel
theorem dL_law_597 : decode cL_law 597 = .ok (.iconst 1, 1) := by decide +kernel
theorem dL_law_598 : decode cL_law 598 = .ok (.iadd, 1) := by decide +kernel
theorem dL_law_599 : decode cL_law 599 = .ok (.iaload, 1) := by decide +kernel
theorem dL_law_600 : decode cL_law 600 = .ok (.invokevirtual 82, 3) := by decide +kernel
theorem dL_law_603 : decode cL_law 603 = .ok (.aload_n 2, 1) := by decide +kernel
theorem dL_law_604 : decode cL_law 604 = .ok (.aload_n 0, 1) := by decide +kernel
theorem dL_law_605 : decode cL_law 605 = .ok (.iload_n 3, 1) := by decide +kernel
theorem dL_law_606 : decode cL_law 606 = .ok (.iconst 1, 1) := by decide +kernel
theorem dL_law_607 : decode cL_law 607 = .ok (.iadd, 1) := by decide +kernel
theorem dL_law_608 : decode cL_law 608 = .ok (.iaload, 1) := by decide +kernel
theorem dL_law_609 : decode cL_law 609 = .ok (.invokevirtual 85, 3) := by decide +kernel
theorem dL_law_612 : decode cL_law 612 = .ok (.if_icmp .eq 205, 3) := by decide +kernel
theorem dL_law_615 : decode cL_law 615 = .ok (.iconst 0, 1) := by decide +kernel
theorem dL_law_616 : decode cL_law 616 = .ok (.ireturn, 1) := by decide +kernel
theorem dL_law_617 : decode cL_law 617 = .ok (.aload_n 1, 1) := by decide +kernel
theorem dL_law_618 : decode cL_law 618 = .ok (.aload_n 0, 1) := by decide +kernel
theorem dL_law_619 : decode cL_law 619 = .ok (.iload_n 3, 1) := by decide +kernel
theorem dL_law_620 : decode cL_law 620 = .ok (.iconst 1, 1) := by decide +kernel
theorem dL_law_621 : decode cL_law 621 = .ok (.iadd, 1) := by decide +kernel
theorem dL_law_622 : decode cL_law 622 = .ok (.iaload, 1) := by decide +kernel
theorem dL_law_623 : decode cL_law 623 = .ok (.aload_n 0, 1) := by decide +kernel
theorem dL_law_624 : decode cL_law 624 = .ok (.iload_n 3, 1) := by decide +kernel
theorem dL_law_625 : decode cL_law 625 = .ok (.iconst 2, 1) := by decide +kernel
theorem dL_law_626 : decode cL_law 626 = .ok (.iadd, 1) := by decide +kernel
theorem dL_law_627 : decode cL_law 627 = .ok (.iaload, 1) := by decide +kernel
theorem dL_law_628 : decode cL_law 628 = .ok (.invokevirtual 86, 3) := by decide +kernel
theorem dL_law_631 : decode cL_law 631 = .ok (.aload_n 2, 1) := by decide +kernel
theorem dL_law_632 : decode cL_law 632 = .ok (.aload_n 0, 1) := by decide +kernel
theorem dL_law_633 : decode cL_law 633 = .ok (.iload_n 3, 1) := by decide +kernel
theorem dL_law_634 : decode cL_law 634 = .ok (.iconst 1, 1) := by decide +kernel
theorem dL_law_635 : decode cL_law 635 = .ok (.iadd, 1) := by decide +kernel
theorem dL_law_636 : decode cL_law 636 = .ok (.iaload, 1) := by decide +kernel
theorem dL_law_637 : decode cL_law 637 = .ok (.aload_n 0, 1) := by decide +kernel
theorem dL_law_638 : decode cL_law 638 = .ok (.iload_n 3, 1) := by decide +kernel
theorem dL_law_639 : decode cL_law 639 = .ok (.iconst 2, 1) := by decide +kernel
theorem dL_law_640 : decode cL_law 640 = .ok (.iadd, 1) := by decide +kernel
theorem dL_law_641 : decode cL_law 641 = .ok (.iaload, 1) := by decide +kernel
theorem dL_law_642 : decode cL_law 642 = .ok (.invokevirtual 89, 3) := by decide +kernel
theorem dL_law_645 : decode cL_law 645 = .ok (.if_icmp .eq 172, 3) := by decide +kernel
theorem dL_law_648 : decode cL_law 648 = .ok (.iconst 0, 1) := by decide +kernel
theorem dL_law_649 : decode cL_law 649 = .ok (.ireturn, 1) := by decide +kernel
theorem dL_law_650 : decode cL_law 650 = .ok (.aload_n 1, 1) := by decide +kernel
theorem dL_law_651 : decode cL_law 651 = .ok (.invokevirtual 90, 3) := by decide +kernel
theorem dL_law_654 : decode cL_law 654 = .ok (.aload_n 2, 1) := by decide +kernel
theorem dL_law_655 : decode cL_law 655 = .ok (.invokevirtual 93, 3) := by decide +kernel
theorem dL_law_658 : decode cL_law 658 = .ok (.if_icmp .eq 159, 3) := by decide +kernel
theorem dL_law_661 : decode cL_law 661 = .ok (.iconst 0, 1) := by decide +kernel
theorem dL_law_662 : decode cL_law 662 = .ok (.ireturn, 1) := by decide +kernel
theorem dL_law_663 : decode cL_law 663 = .ok (.aload_n 1, 1) := by decide +kernel
theorem dL_law_664 : decode cL_law 664 = .ok (.invokevirtual 94, 3) := by decide +kernel
theorem dL_law_667 : decode cL_law 667 = .ok (.aload_n 2, 1) := by decide +kernel
theorem dL_law_668 : decode cL_law 668 = .ok (.invokevirtual 97, 3) := by decide +kernel
theorem dL_law_671 : decode cL_law 671 = .ok (.if_icmp .eq 146, 3) := by decide +kernel
theorem dL_law_674 : decode cL_law 674 = .ok (.iconst 0, 1) := by decide +kernel
theorem dL_law_675 : decode cL_law 675 = .ok (.ireturn, 1) := by decide +kernel
theorem dL_law_676 : decode cL_law 676 = .ok (.aload_n 1, 1) := by decide +kernel
theorem dL_law_677 : decode cL_law 677 = .ok (.invokevirtual 98, 3) := by decide +kernel
theorem dL_law_680 : decode cL_law 680 = .ok (.aload_n 2, 1) := by decide +kernel
theorem dL_law_681 : decode cL_law 681 = .ok (.invokevirtual 101, 3) := by decide +kernel
theorem dL_law_684 : decode cL_law 684 = .ok (.if_icmp .eq 133, 3) := by decide +kernel
theorem dL_law_687 : decode cL_law 687 = .ok (.iconst 0, 1) := by decide +kernel
theorem dL_law_688 : decode cL_law 688 = .ok (.ireturn, 1) := by decide +kernel
theorem dL_law_689 : decode cL_law 689 = .ok (.aload_n 1, 1) := by decide +kernel
theorem dL_law_690 : decode cL_law 690 = .ok (.aload_n 0, 1) := by decide +kernel
theorem dL_law_691 : decode cL_law 691 = .ok (.iload_n 3, 1) := by decide +kernel
theorem dL_law_692 : decode cL_law 692 = .ok (.iconst 1, 1) := by decide +kernel
theorem dL_law_693 : decode cL_law 693 = .ok (.iadd, 1) := by decide +kernel
theorem dL_law_694 : decode cL_law 694 = .ok (.iaload, 1) := by decide +kernel
theorem dL_law_695 : decode cL_law 695 = .ok (.aload_n 0, 1) := by decide +kernel
theorem dL_law_696 : decode cL_law 696 = .ok (.iload_n 3, 1) := by decide +kernel
theorem dL_law_697 : decode cL_law 697 = .ok (.iconst 2, 1) := by decide +kernel
theorem dL_law_698 : decode cL_law 698 = .ok (.iadd, 1) := by decide +kernel
theorem dL_law_699 : decode cL_law 699 = .ok (.iaload, 1) := by decide +kernel
theorem dL_law_700 : decode cL_law 700 = .ok (.invokevirtual 102, 3) := by decide +kernel
theorem dL_law_703 : decode cL_law 703 = .ok (.aload_n 2, 1) := by decide +kernel
theorem dL_law_704 : decode cL_law 704 = .ok (.aload_n 0, 1) := by decide +kernel
theorem dL_law_705 : decode cL_law 705 = .ok (.iload_n 3, 1) := by decide +kernel
theorem dL_law_706 : decode cL_law 706 = .ok (.iconst 1, 1) := by decide +kernel
theorem dL_law_707 : decode cL_law 707 = .ok (.iadd, 1) := by decide +kernel
theorem dL_law_708 : decode cL_law 708 = .ok (.iaload, 1) := by decide +kernel
theorem dL_law_709 : decode cL_law 709 = .ok (.aload_n 0, 1) := by decide +kernel
theorem dL_law_710 : decode cL_law 710 = .ok (.iload_n 3, 1) := by decide +kernel
theorem dL_law_711 : decode cL_law 711 = .ok (.iconst 2, 1) := by decide +kernel
theorem dL_law_712 : decode cL_law 712 = .ok (.iadd, 1) := by decide +kernel
theorem dL_law_713 : decode cL_law 713 = .ok (.iaload, 1) := by decide +kernel
theorem dL_law_714 : decode cL_law 714 = .ok (.invokevirtual 105, 3) := by decide +kernel
theorem dL_law_717 : decode cL_law 717 = .ok (.if_icmp .eq 100, 3) := by decide +kernel
theorem dL_law_720 : decode cL_law 720 = .ok (.iconst 0, 1) := by decide +kernel
theorem dL_law_721 : decode cL_law 721 = .ok (.ireturn, 1) := by decide +kernel
theorem dL_law_722 : decode cL_law 722 = .ok (.aload_n 1, 1) := by decide +kernel
theorem dL_law_723 : decode cL_law 723 = .ok (.invokevirtual 106, 3) := by decide +kernel
theorem dL_law_726 : decode cL_law 726 = .ok (.aload_n 2, 1) := by decide +kernel
theorem dL_law_727 : decode cL_law 727 = .ok (.invokevirtual 109, 3) := by decide +kernel
theorem dL_law_730 : decode cL_law 730 = .ok (.if_icmp .eq 87, 3) := by decide +kernel
theorem dL_law_733 : decode cL_law 733 = .ok (.iconst 0, 1) := by decide +kernel
theorem dL_law_734 : decode cL_law 734 = .ok (.ireturn, 1) := by decide +kernel
theorem dL_law_735 : decode cL_law 735 = .ok (.aload_n 1, 1) := by decide +kernel
theorem dL_law_736 : decode cL_law 736 = .ok (.invokevirtual 110, 3) := by decide +kernel
theorem dL_law_739 : decode cL_law 739 = .ok (.aload_n 2, 1) := by decide +kernel
theorem dL_law_740 : decode cL_law 740 = .ok (.invokevirtual 113, 3) := by decide +kernel
theorem dL_law_743 : decode cL_law 743 = .ok (.if_icmp .eq 74, 3) := by decide +kernel
theorem dL_law_746 : decode cL_law 746 = .ok (.iconst 0, 1) := by decide +kernel
theorem dL_law_747 : decode cL_law 747 = .ok (.ireturn, 1) := by decide +kernel
theorem dL_law_748 : decode cL_law 748 = .ok (.aload_n 1, 1) := by decide +kernel
theorem dL_law_749 : decode cL_law 749 = .ok (.aload_n 0, 1) := by decide +kernel
theorem dL_law_750 : decode cL_law 750 = .ok (.iload_n 3, 1) := by decide +kernel
theorem dL_law_751 : decode cL_law 751 = .ok (.iconst 1, 1) := by decide +kernel
theorem dL_law_752 : decode cL_law 752 = .ok (.iadd, 1) := by decide +kernel
theorem dL_law_753 : decode cL_law 753 = .ok (.iaload, 1) := by decide +kernel
theorem dL_law_754 : decode cL_law 754 = .ok (.invokevirtual 114, 3) := by decide +kernel
theorem dL_law_757 : decode cL_law 757 = .ok (.aload_n 2, 1) := by decide +kernel
theorem dL_law_758 : decode cL_law 758 = .ok (.aload_n 0, 1) := by decide +kernel
theorem dL_law_759 : decode cL_law 759 = .ok (.iload_n 3, 1) := by decide +kernel
theorem dL_law_760 : decode cL_law 760 = .ok (.iconst 1, 1) := by decide +kernel
theorem dL_law_761 : decode cL_law 761 = .ok (.iadd, 1) := by decide +kernel
theorem dL_law_762 : decode cL_law 762 = .ok (.iaload, 1) := by decide +kernel
theorem dL_law_763 : decode cL_law 763 = .ok (.invokevirtual 117, 3) := by decide +kernel
theorem dL_law_766 : decode cL_law 766 = .ok (.if_icmp .eq 51, 3) := by decide +kernel
theorem dL_law_769 : decode cL_law 769 = .ok (.iconst 0, 1) := by decide +kernel
theorem dL_law_770 : decode cL_law 770 = .ok (.ireturn, 1) := by decide +kernel
theorem dL_law_771 : decode cL_law 771 = .ok (.aload_n 1, 1) := by decide +kernel
theorem dL_law_772 : decode cL_law 772 = .ok (.aload_n 0, 1) := by decide +kernel
theorem dL_law_773 : decode cL_law 773 = .ok (.iload_n 3, 1) := by decide +kernel
theorem dL_law_774 : decode cL_law 774 = .ok (.iconst 1, 1) := by decide +kernel
theorem dL_law_775 : decode cL_law 775 = .ok (.iadd, 1) := by decide +kernel
theorem dL_law_776 : decode cL_law 776 = .ok (.iaload, 1) := by decide +kernel
theorem dL_law_777 : decode cL_law 777 = .ok (.invokevirtual 118, 3) := by decide +kernel
theorem dL_law_780 : decode cL_law 780 = .ok (.aload_n 2, 1) := by decide +kernel
theorem dL_law_781 : decode cL_law 781 = .ok (.aload_n 0, 1) := by decide +kernel
theorem dL_law_782 : decode cL_law 782 = .ok (.iload_n 3, 1) := by decide +kernel
theorem dL_law_783 : decode cL_law 783 = .ok (.iconst 1, 1) := by decide +kernel
theorem dL_law_784 : decode cL_law 784 = .ok (.iadd, 1) := by decide +kernel
theorem dL_law_785 : decode cL_law 785 = .ok (.iaload, 1) := by decide +kernel
theorem dL_law_786 : decode cL_law 786 = .ok (.invokevirtual 121, 3) := by decide +kernel
theorem dL_law_789 : decode cL_law 789 = .ok (.if_icmp .eq 28, 3) := by decide +kernel
theorem dL_law_792 : decode cL_law 792 = .ok (.iconst 0, 1) := by decide +kernel
theorem dL_law_793 : decode cL_law 793 = .ok (.ireturn, 1) := by decide +kernel
theorem dL_law_794 : decode cL_law 794 = .ok (.aload_n 1, 1) := by decide +kernel
theorem dL_law_795 : decode cL_law 795 = .ok (.aload_n 0, 1) := by decide +kernel
theorem dL_law_796 : decode cL_law 796 = .ok (.iload_n 3, 1) := by decide +kernel
theorem dL_law_797 : decode cL_law 797 = .ok (.iconst 1, 1) := by decide +kernel
theorem dL_law_798 : decode cL_law 798 = .ok (.iadd, 1) := by decide +kernel
theorem dL_law_799 : decode cL_law 799 = .ok (.iaload, 1) := by decide +kernel
theorem dL_law_800 : decode cL_law 800 = .ok (.invokevirtual 122, 3) := by decide +kernel
theorem dL_law_803 : decode cL_law 803 = .ok (.aload_n 2, 1) := by decide +kernel
theorem dL_law_804 : decode cL_law 804 = .ok (.aload_n 0, 1) := by decide +kernel
theorem dL_law_805 : decode cL_law 805 = .ok (.iload_n 3, 1) := by decide +kernel
theorem dL_law_806 : decode cL_law 806 = .ok (.iconst 1, 1) := by decide +kernel
theorem dL_law_807 : decode cL_law 807 = .ok (.iadd, 1) := by decide +kernel
theorem dL_law_808 : decode cL_law 808 = .ok (.iaload, 1) := by decide +kernel
theorem dL_law_809 : decode cL_law 809 = .ok (.invokevirtual 125, 3) := by decide +kernel
theorem dL_law_812 : decode cL_law 812 = .ok (.if_icmp .eq 5, 3) := by decide +kernel
theorem dL_law_815 : decode cL_law 815 = .ok (.iconst 0, 1) := by decide +kernel
theorem dL_law_816 : decode cL_law 816 = .ok (.ireturn, 1) := by decide +kernel
theorem dL_law_817 : decode cL_law 817 = .ok (.iinc 3 5, 3) := by decide +kernel
theorem dL_law_820 : decode cL_law 820 = .ok (.goto (-802), 3) := by decide +kernel
theorem dL_law_823 : decode cL_law 823 = .ok (.iconst 1, 1) := by decide +kernel
theorem dL_law_824 : decode cL_law 824 = .ok (.ireturn, 1) := by decide +kernel
