theorem dX4_init_15 : decode cX4_init 15 = .ok (.newarray .int, 2) := by decide +kernel
theorem dX4_init_17 : decode cX4_init 17 = .ok (.putfield 15, 3) := by decide +kernel
theorem dX4_init_20 : decode cX4_init 20 = .ok (.aload_n 0, 1) := by decide +kernel
theorem dX4_init_21 : decode cX4_init 21 = .ok (.bipush 18, 2) := by decide +kernel
theorem dX4_init_23 : decode cX4_init 23 = .ok (.newarray .int, 2) := by decide +kernel
theorem dX4_init_25 : decode cX4_init 25 = .ok (.putfield 18, 3) := by decide +kernel
theorem dX4_init_28 : decode cX4_init 28 = .ok (.aload_n 0, 1) := by decide +kernel
theorem dX4_init_29 : decode cX4_init 29 = .ok (.iconst 3, 1) := by decide +kernel
theorem dX4_init_30 : decode cX4_init 30 = .ok (.newarray .int, 2) := by decide +kernel
theorem dX4_init_32 : decode cX4_init 32 = .ok (.putfield 21, 3) := by decide +kernel
theorem dX4_init_35 : decode cX4_init 35 = .ok (.aload_n 0, 1) := by decide +kernel
theorem dX4_init_36 : decode cX4_init 36 = .ok (.bipush 9, 2) := by decide +kernel
theorem dX4_init_38 : decode cX4_init 38 = .ok (.newarray .int, 2) := by decide +kernel
theorem dX4_init_40 : decode cX4_init 40 = .ok (.putfield 24, 3) := by decide +kernel
theorem dX4_init_43 : decode cX4_init 43 = .ok (.aload_n 0, 1) := by decide +kernel
theorem dX4_init_44 : decode cX4_init 44 = .ok (.bipush 18, 2) := by decide +kernel
theorem dX4_init_46 : decode cX4_init 46 = .ok (.newarray .int, 2) := by decide +kernel
theorem dX4_init_48 : decode cX4_init 48 = .ok (.putfield 27, 3) := by decide +kernel
theorem dX4_init_51 : decode cX4_init 51 = .ok (.aload_n 0, 1) := by decide +kernel
theorem dX4_init_52 : decode cX4_init 52 = .ok (.iconst 3, 1) := by decide +kernel
theorem dX4_init_53 : decode cX4_init 53 = .ok (.newarray .int, 2) := by decide +kernel
theorem dX4_init_55 : decode cX4_init 55 = .ok (.putfield 30, 3) := by decide +kernel
theorem dX4_init_58 : decode cX4_init 58 = .ok (.iconst 0, 1) := by decide +kernel
theorem dX4_init_59 : decode cX4_init 59 = .ok (.istore_n 1, 1) := by decide +kernel
theorem dX4_init_60 : decode cX4_init 60 = .ok (.iload_n 1, 1) := by decide +kernel
theorem dX4_init_61 : decode cX4_init 61 = .ok (.bipush 9, 2) := by decide +kernel
theorem dX4_init_63 : decode cX4_init 63 = .ok (.if_icmp .ge 16, 3) := by decide +kernel
theorem dX4_init_66 : decode cX4_init 66 = .ok (.aload_n 0, 1) := by decide +kernel
theorem dX4_init_67 : decode cX4_init 67 = .ok (.getfield 24, 3) := by decide +kernel
theorem dX4_init_70 : decode cX4_init 70 = .ok (.iload_n 1, 1) := by decide +kernel
theorem dX4_init_71 : decode cX4_init 71 = .ok (.iconst (-1), 1) := by decide +kernel
theorem dX4_init_72 : decode cX4_init 72 = .ok (.iastore, 1) := by decide +kernel
theorem dX4_init_73 : decode cX4_init 73 = .ok (.iinc 1 1, 3) := by decide +kernel
theorem dX4_init_76 : decode cX4_init 76 = .ok (.goto (-16), 3) := by decide +kernel
theorem dX4_init_79 : decode cX4_init 79 = .ok (.iconst 0, 1) := by decide +kernel
theorem dX4_init_80 : decode cX4_init 80 = .ok (.istore_n 1, 1) := by decide +kernel
theorem dX4_init_81 : decode cX4_init 81 = .ok (.iload_n 1, 1) := by decide +kernel
theorem dX4_init_82 : decode cX4_init 82 = .ok (.bipush 18, 2) := by decide +kernel
theorem dX4_init_84 : decode cX4_init 84 = .ok (.if_icmp .ge 16, 3) := by decide +kernel
theorem dX4_init_87 : decode cX4_init 87 = .ok (.aload_n 0, 1) := by decide +kernel
theorem dX4_init_88 : decode cX4_init 88 = .ok (.getfield 27, 3) := by decide +kernel
theorem dX4_init_91 : decode cX4_init 91 = .ok (.iload_n 1, 1) := by decide +kernel
theorem dX4_init_92 : decode cX4_init 92 = .ok (.iconst (-1), 1) := by decide +kernel
theorem dX4_init_93 : decode cX4_init 93 = .ok (.iastore, 1) := by decide +kernel
theorem dX4_init_94 : decode cX4_init 94 = .ok (.iinc 1 1, 3) := by decide +kernel
theorem dX4_init_97 : decode cX4_init 97 = .ok (.goto (-16), 3) := by decide +kernel
theorem dX4_init_100 : decode cX4_init 100 = .ok (.iconst 0, 1) := by decide +kernel
theorem dX4_init_101 : decode cX4_init 101 = .ok (.istore_n 1, 1) := by decide +kernel
theorem dX4_init_102 : decode cX4_init 102 = .ok (.iload_n 1, 1) := by decide +kernel
theorem dX4_init_103 : decode cX4_init 103 = .ok (.iconst 3, 1) := by decide +kernel
theorem dX4_init_104 : decode cX4_init 104 = .ok (.if_icmp .ge 16, 3) := by decide +kernel
theorem dX4_init_107 : decode cX4_init 107 = .ok (.aload_n 0, 1) := by decide +kernel
theorem dX4_init_108 : decode cX4_init 108 = .ok (.getfield 30, 3) := by decide +kernel
theorem dX4_init_111 : decode cX4_init 111 = .ok (.iload_n 1, 1) := by decide +kernel
theorem dX4_init_112 : decode cX4_init 112 = .ok (.iconst (-1), 1) := by decide +kernel
theorem dX4_init_113 : decode cX4_init 113 = .ok (.iastore, 1) := by decide +kernel
theorem dX4_init_114 : decode cX4_init 114 = .ok (.iinc 1 1, 3) := by decide +kernel
theorem dX4_init_117 : decode cX4_init 117 = .ok (.goto (-15), 3) := by decide +kernel
theorem dX4_init_120 : decode cX4_init 120 = .ok (.return_, 1) := by decide +kernel
theorem dX4_isBarred_0 : decode cX4_isBarred 0 = .ok (.iload_n 1, 1) := by decide +kernel
theorem dX4_isBarred_1 : decode cX4_isBarred 1 = .ok (.lookupswitch 71 #[(2, 27), (3, 43)], 27) := by decide +kernel
theorem dX4_isBarred_28 : decode cX4_isBarred 28 = .ok (.aload_n 0, 1) := by decide +kernel
theorem dX4_isBarred_29 : decode cX4_isBarred 29 = .ok (.getfield 30, 3) := by decide +kernel
theorem dX4_isBarred_32 : decode cX4_isBarred 32 = .ok (.iload_n 2, 1) := by decide +kernel
theorem dX4_isBarred_33 : decode cX4_isBarred 33 = .ok (.iaload, 1) := by decide +kernel
theorem dX4_isBarred_34 : decode cX4_isBarred 34 = .ok (.iconst (-1), 1) := by decide +kernel
theorem dX4_isBarred_35 : decode cX4_isBarred 35 = .ok (.if_icmp .eq 7, 3) := by decide +kernel
theorem dX4_isBarred_38 : decode cX4_isBarred 38 = .ok (.iconst 1, 1) := by decide +kernel
theorem dX4_isBarred_39 : decode cX4_isBarred 39 = .ok (.goto 4, 3) := by decide +kernel
theorem dX4_isBarred_42 : decode cX4_isBarred 42 = .ok (.iconst 0, 1) := by decide +kernel
theorem dX4_isBarred_43 : decode cX4_isBarred 43 = .ok (.ireturn, 1) := by decide +kernel
theorem dX4_isBarred_44 : decode cX4_isBarred 44 = .ok (.aload_n 0, 1) := by decide +kernel
theorem dX4_isBarred_45 : decode cX4_isBarred 45 = .ok (.getfield 27, 3) := by decide +kernel
theorem dX4_isBarred_48 : decode cX4_isBarred 48 = .ok (.iload_n 2, 1) := by decide +kernel
theorem dX4_isBarred_49 : decode cX4_isBarred 49 = .ok (.iaload, 1) := by decide +kernel
theorem dX4_isBarred_50 : decode cX4_isBarred 50 = .ok (.iconst (-1), 1) := by decide +kernel
theorem dX4_isBarred_51 : decode cX4_isBarred 51 = .ok (.if_icmp .ne 15, 3) := by decide +kernel
theorem dX4_isBarred_54 : decode cX4_isBarred 54 = .ok (.aload_n 0, 1) := by decide +kernel
theorem dX4_isBarred_55 : decode cX4_isBarred 55 = .ok (.getfield 24, 3) := by decide +kernel
theorem dX4_isBarred_58 : decode cX4_isBarred 58 = .ok (.iload_n 2, 1) := by decide +kernel
theorem dX4_isBarred_59 : decode cX4_isBarred 59 = .ok (.iconst 2, 1) := by decide +kernel
theorem dX4_isBarred_60 : decode cX4_isBarred 60 = .ok (.idiv, 1) := by decide +kernel
theorem dX4_isBarred_61 : decode cX4_isBarred 61 = .ok (.iaload, 1) := by decide +kernel
theorem dX4_isBarred_62 : decode cX4_isBarred 62 = .ok (.iconst (-1), 1) := by decide +kernel
theorem dX4_isBarred_63 : decode cX4_isBarred 63 = .ok (.if_icmp .eq 7, 3) := by decide +kernel
theorem dX4_isBarred_66 : decode cX4_isBarred 66 = .ok (.iconst 1, 1) := by decide +kernel
theorem dX4_isBarred_67 : decode cX4_isBarred 67 = .ok (.goto 4, 3) := by decide +kernel
theorem dX4_isBarred_70 : decode cX4_isBarred 70 = .ok (.iconst 0, 1) := by decide +kernel
theorem dX4_isBarred_71 : decode cX4_isBarred 71 = .ok (.ireturn, 1) := by decide +kernel
theorem dX4_isBarred_72 : decode cX4_isBarred 72 = .ok (.aload_n 0, 1) := by decide +kernel
theorem dX4_isBarred_73 : decode cX4_isBarred 73 = .ok (.getfield 24, 3) := by decide +kernel
theorem dX4_isBarred_76 : decode cX4_isBarred 76 = .ok (.iload_n 2, 1) := by decide +kernel
theorem dX4_isBarred_77 : decode cX4_isBarred 77 = .ok (.iaload, 1) := by decide +kernel
theorem dX4_isBarred_78 : decode cX4_isBarred 78 = .ok (.iconst (-1), 1) := by decide +kernel
theorem dX4_isBarred_79 : decode cX4_isBarred 79 = .ok (.if_icmp .ne 29, 3) := by decide +kernel
theorem dX4_isBarred_82 : decode cX4_isBarred 82 = .ok (.aload_n 0, 1) := by decide +kernel
theorem dX4_isBarred_83 : decode cX4_isBarred 83 = .ok (.getfield 27, 3) := by decide +kernel
theorem dX4_isBarred_86 : decode cX4_isBarred 86 = .ok (.iconst 2, 1) := by decide +kernel
theorem dX4_isBarred_87 : decode cX4_isBarred 87 = .ok (.iload_n 2, 1) := by decide +kernel
theorem dX4_isBarred_88 : decode cX4_isBarred 88 = .ok (.imul, 1) := by decide +kernel
theorem dX4_isBarred_89 : decode cX4_isBarred 89 = .ok (.iaload, 1) := by decide +kernel
theorem dX4_isBarred_90 : decode cX4_isBarred 90 = .ok (.iconst (-1), 1) := by decide +kernel
theorem dX4_isBarred_91 : decode cX4_isBarred 91 = .ok (.if_icmp .ne 17, 3) := by decide +kernel
theorem dX4_isBarred_94 : decode cX4_isBarred 94 = .ok (.aload_n 0, 1) := by decide +kernel
theorem dX4_isBarred_95 : decode cX4_isBarred 95 = .ok (.getfield 27, 3) := by decide +kernel
theorem dX4_isBarred_98 : decode cX4_isBarred 98 = .ok (.iconst 2, 1) := by decide +kernel
theorem dX4_isBarred_99 : decode cX4_isBarred 99 = .ok (.iload_n 2, 1) := by decide +kernel
theorem dX4_isBarred_100 : decode cX4_isBarred 100 = .ok (.imul, 1) := by decide +kernel
theorem dX4_isBarred_101 : decode cX4_isBarred 101 = .ok (.iconst 1, 1) := by decide +kernel
theorem dX4_isBarred_102 : decode cX4_isBarred 102 = .ok (.iadd, 1) := by decide +kernel
theorem dX4_isBarred_103 : decode cX4_isBarred 103 = .ok (.iaload, 1) := by decide +kernel
theorem dX4_isBarred_104 : decode cX4_isBarred 104 = .ok (.iconst (-1), 1) := by decide +kernel
theorem dX4_isBarred_105 : decode cX4_isBarred 105 = .ok (.if_icmp .eq 7, 3) := by decide +kernel
theorem dX4_isBarred_108 : decode cX4_isBarred 108 = .ok (.iconst 1, 1) := by decide +kernel
theorem dX4_isBarred_109 : decode cX4_isBarred 109 = .ok (.goto 4, 3) := by decide +kernel
theorem dX4_isBarred_112 : decode cX4_isBarred 112 = .ok (.iconst 0, 1) := by decide +kernel
theorem dX4_isBarred_113 : decode cX4_isBarred 113 = .ok (.ireturn, 1) := by decide +kernel
theorem dX4_isIdle_0 : decode cX4_isIdle 0 = .ok (.iload_n 1, 1) := by decide +kernel
theorem dX4_isIdle_1 : decode cX4_isIdle 1 = .ok (.tableswitch 82 0 2 #[27, 50, 66], 27) := by decide +kernel
theorem dX4_isIdle_28 : decode cX4_isIdle 28 = .ok (.aload_n 0, 1) := by decide +kernel
theorem dX4_isIdle_29 : decode cX4_isIdle 29 = .ok (.getfield 11, 3) := by decide +kernel
theorem dX4_isIdle_32 : decode cX4_isIdle 32 = .ok (.iload_n 2, 1) := by decide +kernel
theorem dX4_isIdle_33 : decode cX4_isIdle 33 = .ok (.iaload, 1) := by decide +kernel
theorem dX4_isIdle_34 : decode cX4_isIdle 34 = .ok (.ifCond .ne 11, 3) := by decide +kernel
theorem dX4_isIdle_37 : decode cX4_isIdle 37 = .ok (.aload_n 0, 1) := by decide +kernel
theorem dX4_isIdle_38 : decode cX4_isIdle 38 = .ok (.iload_n 2, 1) := by decide +kernel
theorem dX4_isIdle_39 : decode cX4_isIdle 39 = .ok (.invokevirtual 39, 3) := by decide +kernel
theorem dX4_isIdle_42 : decode cX4_isIdle 42 = .ok (.ifCond .eq 7, 3) := by decide +kernel
theorem dX4_isIdle_45 : decode cX4_isIdle 45 = .ok (.iconst 1, 1) := by decide +kernel
theorem dX4_isIdle_46 : decode cX4_isIdle 46 = .ok (.goto 4, 3) := by decide +kernel
theorem dX4_isIdle_49 : decode cX4_isIdle 49 = .ok (.iconst 0, 1) := by decide +kernel
theorem dX4_isIdle_50 : decode cX4_isIdle 50 = .ok (.ireturn, 1) := by decide +kernel
theorem dX4_isIdle_51 : decode cX4_isIdle 51 = .ok (.aload_n 0, 1) := by decide +kernel
theorem dX4_isIdle_52 : decode cX4_isIdle 52 = .ok (.getfield 11, 3) := by decide +kernel
theorem dX4_isIdle_55 : decode cX4_isIdle 55 = .ok (.iload_n 2, 1) := by decide +kernel
theorem dX4_isIdle_56 : decode cX4_isIdle 56 = .ok (.iaload, 1) := by decide +kernel
theorem dX4_isIdle_57 : decode cX4_isIdle 57 = .ok (.iconst 1, 1) := by decide +kernel
theorem dX4_isIdle_58 : decode cX4_isIdle 58 = .ok (.if_icmp .eq 7, 3) := by decide +kernel
theorem dX4_isIdle_61 : decode cX4_isIdle 61 = .ok (.iconst 1, 1) := by decide +kernel
theorem dX4_isIdle_62 : decode cX4_isIdle 62 = .ok (.goto 4, 3) := by decide +kernel
theorem dX4_isIdle_65 : decode cX4_isIdle 65 = .ok (.iconst 0, 1) := by decide +kernel
theorem dX4_isIdle_66 : decode cX4_isIdle 66 = .ok (.ireturn, 1) := by decide +kernel
theorem dX4_isIdle_67 : decode cX4_isIdle 67 = .ok (.aload_n 0, 1) := by decide +kernel
theorem dX4_isIdle_68 : decode cX4_isIdle 68 = .ok (.getfield 21, 3) := by decide +kernel
theorem dX4_isIdle_71 : decode cX4_isIdle 71 = .ok (.iload_n 2, 1) := by decide +kernel
theorem dX4_isIdle_72 : decode cX4_isIdle 72 = .ok (.iaload, 1) := by decide +kernel
theorem dX4_isIdle_73 : decode cX4_isIdle 73 = .ok (.iload_n 3, 1) := by decide +kernel
theorem dX4_isIdle_74 : decode cX4_isIdle 74 = .ok (.if_icmp .ne 7, 3) := by decide +kernel
theorem dX4_isIdle_77 : decode cX4_isIdle 77 = .ok (.iconst 1, 1) := by decide +kernel
theorem dX4_isIdle_78 : decode cX4_isIdle 78 = .ok (.goto 4, 3) := by decide +kernel
theorem dX4_isIdle_81 : decode cX4_isIdle 81 = .ok (.iconst 0, 1) := by decide +kernel
theorem dX4_isIdle_82 : decode cX4_isIdle 82 = .ok (.ireturn, 1) := by decide +kernel
theorem dX4_isIdle_83 : decode cX4_isIdle 83 = .ok (.aload_n 0, 1) := by decide +kernel
theorem dX4_isIdle_84 : decode cX4_isIdle 84 = .ok (.getfield 15, 3) := by decide +kernel
theorem dX4_isIdle_87 : decode cX4_isIdle 87 = .ok (.iload_n 2, 1) := by decide +kernel
theorem dX4_isIdle_88 : decode cX4_isIdle 88 = .ok (.iaload, 1) := by decide +kernel
theorem dX4_isIdle_89 : decode cX4_isIdle 89 = .ok (.iconst 1, 1) := by decide +kernel
theorem dX4_isIdle_90 : decode cX4_isIdle 90 = .ok (.if_icmp .ne 7, 3) := by decide +kernel
theorem dX4_isIdle_93 : decode cX4_isIdle 93 = .ok (.iconst 1, 1) := by decide +kernel
theorem dX4_isIdle_94 : decode cX4_isIdle 94 = .ok (.goto 4, 3) := by decide +kernel
theorem dX4_isIdle_97 : decode cX4_isIdle 97 = .ok (.iconst 0, 1) := by decide +kernel
theorem dX4_isIdle_98 : decode cX4_isIdle 98 = .ok (.ireturn, 1) := by decide +kernel
theorem dX4_lose_0 : decode cX4_lose 0 = .ok (.aload_n 0, 1) := by decide +kernel
theorem dX4_lose_1 : decode cX4_lose 1 = .ok (.getfield 11, 3) := by decide +kernel
theorem dX4_lose_4 : decode cX4_lose 4 = .ok (.iload_n 1, 1) := by decide +kernel
theorem dX4_lose_5 : decode cX4_lose 5 = .ok (.iconst 2, 1) := by decide +kernel
theorem dX4_lose_6 : decode cX4_lose 6 = .ok (.iastore, 1) := by decide +kernel
theorem dX4_lose_7 : decode cX4_lose 7 = .ok (.aload_n 0, 1) := by decide +kernel
theorem dX4_lose_8 : decode cX4_lose 8 = .ok (.getfield 24, 3) := by decide +kernel
theorem dX4_lose_11 : decode cX4_lose 11 = .ok (.iload_n 1, 1) := by decide +kernel
theorem dX4_lose_12 : decode cX4_lose 12 = .ok (.iconst (-1), 1) := by decide +kernel
theorem dX4_lose_13 : decode cX4_lose 13 = .ok (.iastore, 1) := by decide +kernel
theorem dX4_lose_14 : decode cX4_lose 14 = .ok (.iconst 2, 1) := by decide +kernel
theorem dX4_lose_15 : decode cX4_lose 15 = .ok (.iload_n 1, 1) := by decide +kernel
theorem dX4_lose_16 : decode cX4_lose 16 = .ok (.imul, 1) := by decide +kernel
theorem dX4_lose_17 : decode cX4_lose 17 = .ok (.istore_n 2, 1) := by decide +kernel
theorem dX4_lose_18 : decode cX4_lose 18 = .ok (.iload_n 2, 1) := by decide +kernel
theorem dX4_lose_19 : decode cX4_lose 19 = .ok (.iconst 2, 1) := by decide +kernel
theorem dX4_lose_20 : decode cX4_lose 20 = .ok (.iload_n 1, 1) := by decide +kernel
theorem dX4_lose_21 : decode cX4_lose 21 = .ok (.imul, 1) := by decide +kernel
theorem dX4_lose_22 : decode cX4_lose 22 = .ok (.iconst 1, 1) := by decide +kernel
theorem dX4_lose_23 : decode cX4_lose 23 = .ok (.iadd, 1) := by decide +kernel
theorem dX4_lose_24 : decode cX4_lose 24 = .ok (.if_icmp .gt 26, 3) := by decide +kernel
theorem dX4_lose_27 : decode cX4_lose 27 = .ok (.aload_n 0, 1) := by decide +kernel
theorem dX4_lose_28 : decode cX4_lose 28 = .ok (.getfield 15, 3) := by decide +kernel
theorem dX4_lose_31 : decode cX4_lose 31 = .ok (.iload_n 2, 1) := by decide +kernel
theorem dX4_lose_32 : decode cX4_lose 32 = .ok (.iaload, 1) := by decide +kernel
theorem dX4_lose_33 : decode cX4_lose 33 = .ok (.iconst 1, 1) := by decide +kernel
theorem dX4_lose_34 : decode cX4_lose 34 = .ok (.if_icmp .ne 10, 3) := by decide +kernel
theorem dX4_lose_37 : decode cX4_lose 37 = .ok (.aload_n 0, 1) := by decide +kernel
theorem dX4_lose_38 : decode cX4_lose 38 = .ok (.getfield 15, 3) := by decide +kernel
theorem dX4_lose_41 : decode cX4_lose 41 = .ok (.iload_n 2, 1) := by decide +kernel
theorem dX4_lose_42 : decode cX4_lose 42 = .ok (.iconst 0, 1) := by decide +kernel
theorem dX4_lose_43 : decode cX4_lose 43 = .ok (.iastore, 1) := by decide +kernel
theorem dX4_lose_44 : decode cX4_lose 44 = .ok (.iinc 2 1, 3) := by decide +kernel
theorem dX4_lose_47 : decode cX4_lose 47 = .ok (.goto (-29), 3) := by decide +kernel
theorem dX4_lose_50 : decode cX4_lose 50 = .ok (.return_, 1) := by decide +kernel
theorem dX4_mark_0 : decode cX4_mark 0 = .ok (.iload_n 1, 1) := by decide +kernel
theorem dX4_mark_1 : decode cX4_mark 1 = .ok (.lookupswitch 47 #[(2, 27), (3, 37)], 27) := by decide +kernel
theorem dX4_mark_28 : decode cX4_mark 28 = .ok (.aload_n 0, 1) := by decide +kernel
theorem dX4_mark_29 : decode cX4_mark 29 = .ok (.getfield 30, 3) := by decide +kernel
theorem dX4_mark_32 : decode cX4_mark 32 = .ok (.iload_n 2, 1) := by decide +kernel
theorem dX4_mark_33 : decode cX4_mark 33 = .ok (.iload_n 3, 1) := by decide +kernel
theorem dX4_mark_34 : decode cX4_mark 34 = .ok (.iastore, 1) := by decide +kernel
theorem dX4_mark_35 : decode cX4_mark 35 = .ok (.goto 20, 3) := by decide +kernel
theorem dX4_mark_38 : decode cX4_mark 38 = .ok (.aload_n 0, 1) := by decide +kernel
theorem dX4_mark_39 : decode cX4_mark 39 = .ok (.getfield 27, 3) := by decide +kernel
theorem dX4_mark_42 : decode cX4_mark 42 = .ok (.iload_n 2, 1) := by decide +kernel
theorem dX4_mark_43 : decode cX4_mark 43 = .ok (.iload_n 3, 1) := by decide +kernel
theorem dX4_mark_44 : decode cX4_mark 44 = .ok (.iastore, 1) := by decide +kernel
theorem dX4_mark_45 : decode cX4_mark 45 = .ok (.goto 10, 3) := by decide +kernel
theorem dX4_mark_48 : decode cX4_mark 48 = .ok (.aload_n 0, 1) := by decide +kernel
theorem dX4_mark_49 : decode cX4_mark 49 = .ok (.getfield 24, 3) := by decide +kernel
theorem dX4_mark_52 : decode cX4_mark 52 = .ok (.iload_n 2, 1) := by decide +kernel
theorem dX4_mark_53 : decode cX4_mark 53 = .ok (.iload_n 3, 1) := by decide +kernel
theorem dX4_mark_54 : decode cX4_mark 54 = .ok (.iastore, 1) := by decide +kernel
theorem dX4_mark_55 : decode cX4_mark 55 = .ok (.return_, 1) := by decide +kernel
theorem dX4_minutesFor_0 : decode cX4_minutesFor 0 = .ok (.iload_n 1, 1) := by decide +kernel
theorem dX4_minutesFor_1 : decode cX4_minutesFor 1 = .ok (.tableswitch 58 0 2 #[27, 35, 44], 27) := by decide +kernel
theorem dX4_minutesFor_28 : decode cX4_minutesFor 28 = .ok (.iconst 4, 1) := by decide +kernel
theorem dX4_minutesFor_29 : decode cX4_minutesFor 29 = .ok (.iconst 2, 1) := by decide +kernel
theorem dX4_minutesFor_30 : decode cX4_minutesFor 30 = .ok (.iload_n 2, 1) := by decide +kernel
theorem dX4_minutesFor_31 : decode cX4_minutesFor 31 = .ok (.iconst 3, 1) := by decide +kernel
theorem dX4_minutesFor_32 : decode cX4_minutesFor 32 = .ok (.irem, 1) := by decide +kernel
theorem dX4_minutesFor_33 : decode cX4_minutesFor 33 = .ok (.imul, 1) := by decide +kernel
theorem dX4_minutesFor_34 : decode cX4_minutesFor 34 = .ok (.iadd, 1) := by decide +kernel
theorem dX4_minutesFor_35 : decode cX4_minutesFor 35 = .ok (.ireturn, 1) := by decide +kernel
theorem dX4_minutesFor_36 : decode cX4_minutesFor 36 = .ok (.bipush 6, 2) := by decide +kernel
theorem dX4_minutesFor_38 : decode cX4_minutesFor 38 = .ok (.iconst 2, 1) := by decide +kernel
theorem dX4_minutesFor_39 : decode cX4_minutesFor 39 = .ok (.iload_n 2, 1) := by decide +kernel
theorem dX4_minutesFor_40 : decode cX4_minutesFor 40 = .ok (.iconst 3, 1) := by decide +kernel
theorem dX4_minutesFor_41 : decode cX4_minutesFor 41 = .ok (.irem, 1) := by decide +kernel
theorem dX4_minutesFor_42 : decode cX4_minutesFor 42 = .ok (.imul, 1) := by decide +kernel
theorem dX4_minutesFor_43 : decode cX4_minutesFor 43 = .ok (.iadd, 1) := by decide +kernel
theorem dX4_minutesFor_44 : decode cX4_minutesFor 44 = .ok (.ireturn, 1) := by decide +kernel
theorem dX4_minutesFor_45 : decode cX4_minutesFor 45 = .ok (.iconst 2, 1) := by decide +kernel
theorem dX4_minutesFor_46 : decode cX4_minutesFor 46 = .ok (.iload_n 3, 1) := by decide +kernel
theorem dX4_minutesFor_47 : decode cX4_minutesFor 47 = .ok (.aload_n 0, 1) := by decide +kernel
theorem dX4_minutesFor_48 : decode cX4_minutesFor 48 = .ok (.getfield 21, 3) := by decide +kernel
theorem dX4_minutesFor_51 : decode cX4_minutesFor 51 = .ok (.iload_n 2, 1) := by decide +kernel
theorem dX4_minutesFor_52 : decode cX4_minutesFor 52 = .ok (.iaload, 1) := by decide +kernel
theorem dX4_minutesFor_53 : decode cX4_minutesFor 53 = .ok (.isub, 1) := by decide +kernel
theorem dX4_minutesFor_54 : decode cX4_minutesFor 54 = .ok (.invokestatic 33, 3) := by decide +kernel
theorem dX4_minutesFor_57 : decode cX4_minutesFor 57 = .ok (.imul, 1) := by decide +kernel
theorem dX4_minutesFor_58 : decode cX4_minutesFor 58 = .ok (.ireturn, 1) := by decide +kernel
theorem dX4_minutesFor_59 : decode cX4_minutesFor 59 = .ok (.bipush 10, 2) := by decide +kernel
theorem dX4_minutesFor_61 : decode cX4_minutesFor 61 = .ok (.ireturn, 1) := by decide +kernel
theorem dX4_renew_0 : decode cX4_renew 0 = .ok (.aload_n 0, 1) := by decide +kernel
theorem dX4_renew_1 : decode cX4_renew 1 = .ok (.getfield 15, 3) := by decide +kernel
theorem dX4_renew_4 : decode cX4_renew 4 = .ok (.iload_n 1, 1) := by decide +kernel
theorem dX4_renew_5 : decode cX4_renew 5 = .ok (.iconst 0, 1) := by decide +kernel
theorem dX4_renew_6 : decode cX4_renew 6 = .ok (.iastore, 1) := by decide +kernel
theorem dX4_renew_7 : decode cX4_renew 7 = .ok (.aload_n 0, 1) := by decide +kernel
theorem dX4_renew_8 : decode cX4_renew 8 = .ok (.getfield 18, 3) := by decide +kernel
theorem dX4_renew_11 : decode cX4_renew 11 = .ok (.iload_n 1, 1) := by decide +kernel
theorem dX4_renew_12 : decode cX4_renew 12 = .ok (.iconst 0, 1) := by decide +kernel
theorem dX4_renew_13 : decode cX4_renew 13 = .ok (.iastore, 1) := by decide +kernel
theorem dX4_renew_14 : decode cX4_renew 14 = .ok (.iload_n 1, 1) := by decide +kernel
theorem dX4_renew_15 : decode cX4_renew 15 = .ok (.iconst 2, 1) := by decide +kernel
theorem dX4_renew_16 : decode cX4_renew 16 = .ok (.idiv, 1) := by decide +kernel
theorem dX4_renew_17 : decode cX4_renew 17 = .ok (.istore_n 2, 1) := by decide +kernel
theorem dX4_renew_18 : decode cX4_renew 18 = .ok (.aload_n 0, 1) := by decide +kernel
theorem dX4_renew_19 : decode cX4_renew 19 = .ok (.getfield 11, 3) := by decide +kernel
theorem dX4_renew_22 : decode cX4_renew 22 = .ok (.iload_n 2, 1) := by decide +kernel
theorem dX4_renew_23 : decode cX4_renew 23 = .ok (.iaload, 1) := by decide +kernel
theorem dX4_renew_24 : decode cX4_renew 24 = .ok (.iconst 2, 1) := by decide +kernel
theorem dX4_renew_25 : decode cX4_renew 25 = .ok (.if_icmp .ne 18, 3) := by decide +kernel
theorem dX4_renew_28 : decode cX4_renew 28 = .ok (.aload_n 0, 1) := by decide +kernel
theorem dX4_renew_29 : decode cX4_renew 29 = .ok (.iload_n 2, 1) := by decide +kernel
theorem dX4_renew_30 : decode cX4_renew 30 = .ok (.invokevirtual 39, 3) := by decide +kernel
theorem dX4_renew_33 : decode cX4_renew 33 = .ok (.ifCond .ne 10, 3) := by decide +kernel
theorem dX4_renew_36 : decode cX4_renew 36 = .ok (.aload_n 0, 1) := by decide +kernel
theorem dX4_renew_37 : decode cX4_renew 37 = .ok (.getfield 11, 3) := by decide +kernel
theorem dX4_renew_40 : decode cX4_renew 40 = .ok (.iload_n 2, 1) := by decide +kernel
theorem dX4_renew_41 : decode cX4_renew 41 = .ok (.iconst 0, 1) := by decide +kernel
theorem dX4_renew_42 : decode cX4_renew 42 = .ok (.iastore, 1) := by decide +kernel
theorem dX4_renew_43 : decode cX4_renew 43 = .ok (.return_, 1) := by decide +kernel
theorem dX4_strain_0 : decode cX4_strain 0 = .ok (.iload_n 2, 1) := by decide +kernel
theorem dX4_strain_1 : decode cX4_strain 1 = .ok (.iload_n 2, 1) := by decide +kernel
theorem dX4_strain_2 : decode cX4_strain 2 = .ok (.imul, 1) := by decide +kernel
theorem dX4_strain_3 : decode cX4_strain 3 = .ok (.getstatic 58, 3) := by decide +kernel
theorem dX4_strain_6 : decode cX4_strain 6 = .ok (.iload_n 1, 1) := by decide +kernel
theorem dX4_strain_7 : decode cX4_strain 7 = .ok (.iconst 3, 1) := by decide +kernel
theorem dX4_strain_8 : decode cX4_strain 8 = .ok (.irem, 1) := by decide +kernel
theorem dX4_strain_9 : decode cX4_strain 9 = .ok (.iaload, 1) := by decide +kernel
theorem dX4_strain_10 : decode cX4_strain 10 = .ok (.imul, 1) := by decide +kernel
theorem dX4_strain_11 : decode cX4_strain 11 = .ok (.iconst 4, 1) := by decide +kernel
theorem dX4_strain_12 : decode cX4_strain 12 = .ok (.idiv, 1) := by decide +kernel
theorem dX4_strain_13 : decode cX4_strain 13 = .ok (.istore 4, 2) := by decide +kernel
theorem dX4_strain_15 : decode cX4_strain 15 = .ok (.iload_n 3, 1) := by decide +kernel
theorem dX4_strain_16 : decode cX4_strain 16 = .ok (.ifCond .eq 9, 3) := by decide +kernel
theorem dX4_strain_19 : decode cX4_strain 19 = .ok (.iconst 2, 1) := by decide +kernel
theorem dX4_strain_20 : decode cX4_strain 20 = .ok (.iload 4, 2) := by decide +kernel
theorem dX4_strain_22 : decode cX4_strain 22 = .ok (.imul, 1) := by decide +kernel
theorem dX4_strain_23 : decode cX4_strain 23 = .ok (.istore 4, 2) := by decide +kernel
theorem dX4_strain_25 : decode cX4_strain 25 = .ok (.aload_n 0, 1) := by decide +kernel
theorem dX4_strain_26 : decode cX4_strain 26 = .ok (.getfield 76, 3) := by decide +kernel
theorem dX4_strain_29 : decode cX4_strain 29 = .ok (.istore 5, 2) := by decide +kernel
theorem dX4_strain_31 : decode cX4_strain 31 = .ok (.aload_n 0, 1) := by decide +kernel
theorem dX4_strain_32 : decode cX4_strain 32 = .ok (.iconst 2, 1) := by decide +kernel
theorem dX4_strain_33 : decode cX4_strain 33 = .ok (.iload_n 1, 1) := by decide +kernel
theorem dX4_strain_34 : decode cX4_strain 34 = .ok (.imul, 1) := by decide +kernel
theorem dX4_strain_35 : decode cX4_strain 35 = .ok (.iload 4, 2) := by decide +kernel
theorem dX4_strain_37 : decode cX4_strain 37 = .ok (.invokevirtual 80, 3) := by decide +kernel
theorem dX4_strain_40 : decode cX4_strain 40 = .ok (.aload_n 0, 1) := by decide +kernel
theorem dX4_strain_41 : decode cX4_strain 41 = .ok (.iconst 2, 1) := by decide +kernel
theorem dX4_strain_42 : decode cX4_strain 42 = .ok (.iload_n 1, 1) := by decide +kernel
theorem dX4_strain_43 : decode cX4_strain 43 = .ok (.imul, 1) := by decide +kernel
theorem dX4_strain_44 : decode cX4_strain 44 = .ok (.iconst 1, 1) := by decide +kernel
theorem dX4_strain_45 : decode cX4_strain 45 = .ok (.iadd, 1) := by decide +kernel
theorem dX4_strain_46 : decode cX4_strain 46 = .ok (.iload 4, 2) := by decide +kernel
theorem dX4_strain_48 : decode cX4_strain 48 = .ok (.invokevirtual 80, 3) := by decide +kernel
theorem dX4_strain_51 : decode cX4_strain 51 = .ok (.aload_n 0, 1) := by decide +kernel
theorem dX4_strain_52 : decode cX4_strain 52 = .ok (.getfield 76, 3) := by decide +kernel
theorem dX4_strain_55 : decode cX4_strain 55 = .ok (.iload 5, 2) := by decide +kernel
theorem dX4_strain_57 : decode cX4_strain 57 = .ok (.if_icmp .le 7, 3) := by decide +kernel
theorem dX4_strain_60 : decode cX4_strain 60 = .ok (.iconst 1, 1) := by decide +kernel
theorem dX4_strain_61 : decode cX4_strain 61 = .ok (.goto 4, 3) := by decide +kernel
theorem dX4_strain_64 : decode cX4_strain 64 = .ok (.iconst 0, 1) := by decide +kernel
theorem dX4_strain_65 : decode cX4_strain 65 = .ok (.ireturn, 1) := by decide +kernel
theorem dX4_strainRope_0 : decode cX4_strainRope 0 = .ok (.aload_n 0, 1) := by decide +kernel
theorem dX4_strainRope_1 : decode cX4_strainRope 1 = .ok (.getfield 18, 3) := by decide +kernel
theorem dX4_strainRope_4 : decode cX4_strainRope 4 = .ok (.iload_n 1, 1) := by decide +kernel
theorem dX4_strainRope_5 : decode cX4_strainRope 5 = .ok (.iaload, 1) := by decide +kernel
theorem dX4_strainRope_6 : decode cX4_strainRope 6 = .ok (.iload_n 2, 1) := by decide +kernel
theorem dX4_strainRope_7 : decode cX4_strainRope 7 = .ok (.iadd, 1) := by decide +kernel
theorem dX4_strainRope_8 : decode cX4_strainRope 8 = .ok (.sipush 900, 3) := by decide +kernel
theorem dX4_strainRope_11 : decode cX4_strainRope 11 = .ok (.if_icmp .le 23, 3) := by decide +kernel
theorem dX4_strainRope_14 : decode cX4_strainRope 14 = .ok (.aload_n 0, 1) := by decide +kernel
theorem dX4_strainRope_15 : decode cX4_strainRope 15 = .ok (.getfield 15, 3) := by decide +kernel
theorem dX4_strainRope_18 : decode cX4_strainRope 18 = .ok (.iload_n 1, 1) := by decide +kernel
theorem dX4_strainRope_19 : decode cX4_strainRope 19 = .ok (.iconst 2, 1) := by decide +kernel
theorem dX4_strainRope_20 : decode cX4_strainRope 20 = .ok (.iastore, 1) := by decide +kernel
theorem dX4_strainRope_21 : decode cX4_strainRope 21 = .ok (.aload_n 0, 1) := by decide +kernel
theorem dX4_strainRope_22 : decode cX4_strainRope 22 = .ok (.dup, 1) := by decide +kernel
theorem dX4_strainRope_23 : decode cX4_strainRope 23 = .ok (.getfield 76, 3) := by decide +kernel
theorem dX4_strainRope_26 : decode cX4_strainRope 26 = .ok (.iconst 1, 1) := by decide +kernel
theorem dX4_strainRope_27 : decode cX4_strainRope 27 = .ok (.iadd, 1) := by decide +kernel
theorem dX4_strainRope_28 : decode cX4_strainRope 28 = .ok (.putfield 76, 3) := by decide +kernel
theorem dX4_strainRope_31 : decode cX4_strainRope 31 = .ok (.goto 16, 3) := by decide +kernel
theorem dX4_strainRope_34 : decode cX4_strainRope 34 = .ok (.aload_n 0, 1) := by decide +kernel
theorem dX4_strainRope_35 : decode cX4_strainRope 35 = .ok (.getfield 18, 3) := by decide +kernel
theorem dX4_strainRope_38 : decode cX4_strainRope 38 = .ok (.iload_n 1, 1) := by decide +kernel
theorem dX4_strainRope_39 : decode cX4_strainRope 39 = .ok (.dup2, 1) := by decide +kernel
theorem dX4_strainRope_40 : decode cX4_strainRope 40 = .ok (.iaload, 1) := by decide +kernel
theorem dX4_strainRope_41 : decode cX4_strainRope 41 = .ok (.iload_n 2, 1) := by decide +kernel
theorem dX4_strainRope_42 : decode cX4_strainRope 42 = .ok (.bipush 16, 2) := by decide +kernel
theorem dX4_strainRope_44 : decode cX4_strainRope 44 = .ok (.idiv, 1) := by decide +kernel
theorem dX4_strainRope_45 : decode cX4_strainRope 45 = .ok (.iadd, 1) := by decide +kernel
theorem dX4_strainRope_46 : decode cX4_strainRope 46 = .ok (.iastore, 1) := by decide +kernel
theorem dX4_strainRope_47 : decode cX4_strainRope 47 = .ok (.return_, 1) := by decide +kernel
theorem dX5_add_0 : decode cX5_add 0 = .ok (.aload_n 0, 1) := by decide +kernel
theorem dX5_add_1 : decode cX5_add 1 = .ok (.getfield 36, 3) := by decide +kernel
theorem dX5_add_4 : decode cX5_add 4 = .ok (.istore_n 3, 1) := by decide +kernel
theorem dX5_add_5 : decode cX5_add 5 = .ok (.aload_n 0, 1) := by decide +kernel
theorem dX5_add_6 : decode cX5_add 6 = .ok (.dup, 1) := by decide +kernel
theorem dX5_add_7 : decode cX5_add 7 = .ok (.getfield 36, 3) := by decide +kernel
theorem dX5_add_10 : decode cX5_add 10 = .ok (.iconst 1, 1) := by decide +kernel
theorem dX5_add_11 : decode cX5_add 11 = .ok (.iadd, 1) := by decide +kernel
theorem dX5_add_12 : decode cX5_add 12 = .ok (.putfield 36, 3) := by decide +kernel
theorem dX5_add_15 : decode cX5_add 15 = .ok (.aload_n 0, 1) := by decide +kernel
theorem dX5_add_16 : decode cX5_add 16 = .ok (.getfield 11, 3) := by decide +kernel
theorem dX5_add_19 : decode cX5_add 19 = .ok (.iload_n 3, 1) := by decide +kernel
theorem dX5_add_20 : decode cX5_add 20 = .ok (.iload_n 1, 1) := by decide +kernel
theorem dX5_add_21 : decode cX5_add 21 = .ok (.iastore, 1) := by decide +kernel
theorem dX5_add_22 : decode cX5_add 22 = .ok (.aload_n 0, 1) := by decide +kernel
theorem dX5_add_23 : decode cX5_add 23 = .ok (.getfield 15, 3) := by decide +kernel
theorem dX5_add_26 : decode cX5_add 26 = .ok (.iload_n 3, 1) := by decide +kernel
theorem dX5_add_27 : decode cX5_add 27 = .ok (.iconst 0, 1) := by decide +kernel
theorem dX5_add_28 : decode cX5_add 28 = .ok (.iastore, 1) := by decide +kernel
theorem dX5_add_29 : decode cX5_add 29 = .ok (.aload_n 0, 1) := by decide +kernel
theorem dX5_add_30 : decode cX5_add 30 = .ok (.getfield 18, 3) := by decide +kernel
theorem dX5_add_33 : decode cX5_add 33 = .ok (.iload_n 3, 1) := by decide +kernel
theorem dX5_add_34 : decode cX5_add 34 = .ok (.iconst 0, 1) := by decide +kernel
theorem dX5_add_35 : decode cX5_add 35 = .ok (.iastore, 1) := by decide +kernel
theorem dX5_add_36 : decode cX5_add 36 = .ok (.aload_n 0, 1) := by decide +kernel
theorem dX5_add_37 : decode cX5_add 37 = .ok (.getfield 21, 3) := by decide +kernel
theorem dX5_add_40 : decode cX5_add 40 = .ok (.iload_n 3, 1) := by decide +kernel
theorem dX5_add_41 : decode cX5_add 41 = .ok (.iload_n 2, 1) := by decide +kernel
theorem dX5_add_42 : decode cX5_add 42 = .ok (.iastore, 1) := by decide +kernel
theorem dX5_add_43 : decode cX5_add 43 = .ok (.aload_n 0, 1) := by decide +kernel
theorem dX5_add_44 : decode cX5_add 44 = .ok (.getfield 24, 3) := by decide +kernel
theorem dX5_add_47 : decode cX5_add 47 = .ok (.iload_n 3, 1) := by decide +kernel
theorem dX5_add_48 : decode cX5_add 48 = .ok (.iconst (-1), 1) := by decide +kernel
theorem dX5_add_49 : decode cX5_add 49 = .ok (.iastore, 1) := by decide +kernel
theorem dX5_add_50 : decode cX5_add 50 = .ok (.aload_n 0, 1) := by decide +kernel
theorem dX5_add_51 : decode cX5_add 51 = .ok (.getfield 27, 3) := by decide +kernel
theorem dX5_add_54 : decode cX5_add 54 = .ok (.iload_n 3, 1) := by decide +kernel
theorem dX5_add_55 : decode cX5_add 55 = .ok (.iload_n 3, 1) := by decide +kernel
theorem dX5_add_56 : decode cX5_add 56 = .ok (.iconst 1, 1) := by decide +kernel
theorem dX5_add_57 : decode cX5_add 57 = .ok (.iadd, 1) := by decide +kernel
theorem dX5_add_58 : decode cX5_add 58 = .ok (.iastore, 1) := by decide +kernel
theorem dX5_add_59 : decode cX5_add 59 = .ok (.iconst 0, 1) := by decide +kernel
theorem dX5_add_60 : decode cX5_add 60 = .ok (.istore 4, 2) := by decide +kernel
theorem dX5_add_62 : decode cX5_add 62 = .ok (.iload 4, 2) := by decide +kernel
theorem dX5_add_64 : decode cX5_add 64 = .ok (.bipush 8, 2) := by decide +kernel
theorem dX5_add_66 : decode cX5_add 66 = .ok (.if_icmp .ge 22, 3) := by decide +kernel
theorem dX5_add_69 : decode cX5_add 69 = .ok (.aload_n 0, 1) := by decide +kernel
theorem dX5_add_70 : decode cX5_add 70 = .ok (.getfield 33, 3) := by decide +kernel
theorem dX5_add_73 : decode cX5_add 73 = .ok (.iload_n 3, 1) := by decide +kernel
theorem dX5_add_74 : decode cX5_add 74 = .ok (.bipush 8, 2) := by decide +kernel
theorem dX5_add_76 : decode cX5_add 76 = .ok (.imul, 1) := by decide +kernel
theorem dX5_add_77 : decode cX5_add 77 = .ok (.iload 4, 2) := by decide +kernel
theorem dX5_add_79 : decode cX5_add 79 = .ok (.iadd, 1) := by decide +kernel
theorem dX5_add_80 : decode cX5_add 80 = .ok (.iconst 0, 1) := by decide +kernel
theorem dX5_add_81 : decode cX5_add 81 = .ok (.iastore, 1) := by decide +kernel
theorem dX5_add_82 : decode cX5_add 82 = .ok (.iinc 4 1, 3) := by decide +kernel
theorem dX5_add_85 : decode cX5_add 85 = .ok (.goto (-23), 3) := by decide +kernel
theorem dX5_add_88 : decode cX5_add 88 = .ok (.iload_n 3, 1) := by decide +kernel
theorem dX5_add_89 : decode cX5_add 89 = .ok (.ireturn, 1) := by decide +kernel
theorem dX5_blockEnd_0 : decode cX5_blockEnd 0 = .ok (.aload_n 0, 1) := by decide +kernel
theorem dX5_blockEnd_1 : decode cX5_blockEnd 1 = .ok (.getfield 11, 3) := by decide +kernel
theorem dX5_blockEnd_4 : decode cX5_blockEnd 4 = .ok (.iload_n 1, 1) := by decide +kernel
theorem dX5_blockEnd_5 : decode cX5_blockEnd 5 = .ok (.iaload, 1) := by decide +kernel
theorem dX5_blockEnd_6 : decode cX5_blockEnd 6 = .ok (.bipush 7, 2) := by decide +kernel
theorem dX5_blockEnd_8 : decode cX5_blockEnd 8 = .ok (.if_icmp .ne 22, 3) := by decide +kernel
theorem dX5_blockEnd_11 : decode cX5_blockEnd 11 = .ok (.iload_n 2, 1) := by decide +kernel
theorem dX5_blockEnd_12 : decode cX5_blockEnd 12 = .ok (.aload_n 0, 1) := by decide +kernel
theorem dX5_blockEnd_13 : decode cX5_blockEnd 13 = .ok (.getfield 24, 3) := by decide +kernel
theorem dX5_blockEnd_16 : decode cX5_blockEnd 16 = .ok (.iload_n 1, 1) := by decide +kernel
theorem dX5_blockEnd_17 : decode cX5_blockEnd 17 = .ok (.iaload, 1) := by decide +kernel
theorem dX5_blockEnd_18 : decode cX5_blockEnd 18 = .ok (.if_icmp .ge 12, 3) := by decide +kernel
theorem dX5_blockEnd_21 : decode cX5_blockEnd 21 = .ok (.aload_n 0, 1) := by decide +kernel
theorem dX5_blockEnd_22 : decode cX5_blockEnd 22 = .ok (.getfield 24, 3) := by decide +kernel
theorem dX5_blockEnd_25 : decode cX5_blockEnd 25 = .ok (.iload_n 1, 1) := by decide +kernel
theorem dX5_blockEnd_26 : decode cX5_blockEnd 26 = .ok (.iaload, 1) := by decide +kernel
theorem dX5_blockEnd_27 : decode cX5_blockEnd 27 = .ok (.goto 9, 3) := by decide +kernel
theorem dX5_blockEnd_30 : decode cX5_blockEnd 30 = .ok (.aload_n 0, 1) := by decide +kernel
theorem dX5_blockEnd_31 : decode cX5_blockEnd 31 = .ok (.getfield 27, 3) := by decide +kernel
theorem dX5_blockEnd_34 : decode cX5_blockEnd 34 = .ok (.iload_n 1, 1) := by decide +kernel
theorem dX5_blockEnd_35 : decode cX5_blockEnd 35 = .ok (.iaload, 1) := by decide +kernel
theorem dX5_blockEnd_36 : decode cX5_blockEnd 36 = .ok (.ireturn, 1) := by decide +kernel
theorem dX5_init_0 : decode cX5_init 0 = .ok (.aload_n 0, 1) := by decide +kernel
theorem dX5_init_1 : decode cX5_init 1 = .ok (.invokespecial 3, 3) := by decide +kernel
theorem dX5_init_4 : decode cX5_init 4 = .ok (.aload_n 0, 1) := by decide +kernel
theorem dX5_init_5 : decode cX5_init 5 = .ok (.bipush 80, 2) := by decide +kernel
theorem dX5_init_7 : decode cX5_init 7 = .ok (.newarray .int, 2) := by decide +kernel
theorem dX5_init_9 : decode cX5_init 9 = .ok (.putfield 11, 3) := by decide +kernel
theorem dX5_init_12 : decode cX5_init 12 = .ok (.aload_n 0, 1) := by decide +kernel
theorem dX5_init_13 : decode cX5_init 13 = .ok (.bipush 80, 2) := by decide +kernel
theorem dX5_init_15 : decode cX5_init 15 = .ok (.newarray .int, 2) := by decide +kernel
theorem dX5_init_17 : decode cX5_init 17 = .ok (.putfield 15, 3) := by decide +kernel
theorem dX5_init_20 : decode cX5_init 20 = .ok (.aload_n 0, 1) := by decide +kernel
theorem dX5_init_21 : decode cX5_init 21 = .ok (.bipush 80, 2) := by decide +kernel
theorem dX5_init_23 : decode cX5_init 23 = .ok (.newarray .int, 2) := by decide +kernel
theorem dX5_init_25 : decode cX5_init 25 = .ok (.putfield 18, 3) := by decide +kernel
theorem dX5_init_28 : decode cX5_init 28 = .ok (.aload_n 0, 1) := by decide +kernel
theorem dX5_init_29 : decode cX5_init 29 = .ok (.bipush 80, 2) := by decide +kernel
theorem dX5_init_31 : decode cX5_init 31 = .ok (.newarray .int, 2) := by decide +kernel
theorem dX5_init_33 : decode cX5_init 33 = .ok (.putfield 21, 3) := by decide +kernel
theorem dX5_init_36 : decode cX5_init 36 = .ok (.aload_n 0, 1) := by decide +kernel
theorem dX5_init_37 : decode cX5_init 37 = .ok (.bipush 80, 2) := by decide +kernel
theorem dX5_init_39 : decode cX5_init 39 = .ok (.newarray .int, 2) := by decide +kernel
theorem dX5_init_41 : decode cX5_init 41 = .ok (.putfield 24, 3) := by decide +kernel
theorem dX5_init_44 : decode cX5_init 44 = .ok (.aload_n 0, 1) := by decide +kernel
theorem dX5_init_45 : decode cX5_init 45 = .ok (.bipush 80, 2) := by decide +kernel
theorem dX5_init_47 : decode cX5_init 47 = .ok (.newarray .int, 2) := by decide +kernel
theorem dX5_init_49 : decode cX5_init 49 = .ok (.putfield 27, 3) := by decide +kernel
theorem dX5_init_52 : decode cX5_init 52 = .ok (.aload_n 0, 1) := by decide +kernel
theorem dX5_init_53 : decode cX5_init 53 = .ok (.bipush 80, 2) := by decide +kernel
theorem dX5_init_55 : decode cX5_init 55 = .ok (.newarray .int, 2) := by decide +kernel
theorem dX5_init_57 : decode cX5_init 57 = .ok (.putfield 30, 3) := by decide +kernel
theorem dX5_init_60 : decode cX5_init 60 = .ok (.aload_n 0, 1) := by decide +kernel
theorem dX5_init_61 : decode cX5_init 61 = .ok (.sipush 640, 3) := by decide +kernel
theorem dX5_init_64 : decode cX5_init 64 = .ok (.newarray .int, 2) := by decide +kernel
theorem dX5_init_66 : decode cX5_init 66 = .ok (.putfield 33, 3) := by decide +kernel
theorem dX5_init_69 : decode cX5_init 69 = .ok (.return_, 1) := by decide +kernel
theorem dX5_isTrue_0 : decode cX5_isTrue 0 = .ok (.iconst 0, 1) := by decide +kernel
theorem dX5_isTrue_1 : decode cX5_isTrue 1 = .ok (.istore_n 3, 1) := by decide +kernel
theorem dX5_isTrue_2 : decode cX5_isTrue 2 = .ok (.iconst 0, 1) := by decide +kernel
theorem dX5_isTrue_3 : decode cX5_isTrue 3 = .ok (.istore 4, 2) := by decide +kernel
theorem dX5_isTrue_5 : decode cX5_isTrue 5 = .ok (.iload 4, 2) := by decide +kernel
theorem dX5_isTrue_7 : decode cX5_isTrue 7 = .ok (.bipush 8, 2) := by decide +kernel
theorem dX5_isTrue_9 : decode cX5_isTrue 9 = .ok (.if_icmp .ge 36, 3) := by decide +kernel
theorem dX5_isTrue_12 : decode cX5_isTrue 12 = .ok (.iload 4, 2) := by decide +kernel
theorem dX5_isTrue_14 : decode cX5_isTrue 14 = .ok (.aload_n 2, 1) := by decide +kernel
theorem dX5_isTrue_15 : decode cX5_isTrue 15 = .ok (.arraylength, 1) := by decide +kernel
theorem dX5_isTrue_16 : decode cX5_isTrue 16 = .ok (.if_icmp .ge 29, 3) := by decide +kernel
theorem dX5_isTrue_19 : decode cX5_isTrue 19 = .ok (.iload_n 3, 1) := by decide +kernel
theorem dX5_isTrue_20 : decode cX5_isTrue 20 = .ok (.aload_n 0, 1) := by decide +kernel
theorem dX5_isTrue_21 : decode cX5_isTrue 21 = .ok (.getfield 33, 3) := by decide +kernel
theorem dX5_isTrue_24 : decode cX5_isTrue 24 = .ok (.iload_n 1, 1) := by decide +kernel
theorem dX5_isTrue_25 : decode cX5_isTrue 25 = .ok (.bipush 8, 2) := by decide +kernel
theorem dX5_isTrue_27 : decode cX5_isTrue 27 = .ok (.imul, 1) := by decide +kernel
theorem dX5_isTrue_28 : decode cX5_isTrue 28 = .ok (.iload 4, 2) := by decide +kernel
theorem dX5_isTrue_30 : decode cX5_isTrue 30 = .ok (.iadd, 1) := by decide +kernel
theorem dX5_isTrue_31 : decode cX5_isTrue 31 = .ok (.iaload, 1) := by decide +kernel
theorem dX5_isTrue_32 : decode cX5_isTrue 32 = .ok (.aload_n 2, 1) := by decide +kernel
theorem dX5_isTrue_33 : decode cX5_isTrue 33 = .ok (.iload 4, 2) := by decide +kernel
theorem dX5_isTrue_35 : decode cX5_isTrue 35 = .ok (.iaload, 1) := by decide +kernel
theorem dX5_isTrue_36 : decode cX5_isTrue 36 = .ok (.imul, 1) := by decide +kernel
theorem dX5_isTrue_37 : decode cX5_isTrue 37 = .ok (.iadd, 1) := by decide +kernel
theorem dX5_isTrue_38 : decode cX5_isTrue 38 = .ok (.istore_n 3, 1) := by decide +kernel
theorem dX5_isTrue_39 : decode cX5_isTrue 39 = .ok (.iinc 4 1, 3) := by decide +kernel
theorem dX5_isTrue_42 : decode cX5_isTrue 42 = .ok (.goto (-37), 3) := by decide +kernel
theorem dX5_isTrue_45 : decode cX5_isTrue 45 = .ok (.aload_n 0, 1) := by decide +kernel
theorem dX5_isTrue_46 : decode cX5_isTrue 46 = .ok (.getfield 15, 3) := by decide +kernel
theorem dX5_isTrue_49 : decode cX5_isTrue 49 = .ok (.iload_n 1, 1) := by decide +kernel
theorem dX5_isTrue_50 : decode cX5_isTrue 50 = .ok (.iaload, 1) := by decide +kernel
theorem dX5_isTrue_51 : decode cX5_isTrue 51 = .ok (.lookupswitch 45 #[(1, 25), (2, 35)], 25) := by decide +kernel
theorem dX5_isTrue_76 : decode cX5_isTrue 76 = .ok (.iload_n 3, 1) := by decide +kernel
theorem dX5_isTrue_77 : decode cX5_isTrue 77 = .ok (.ifCond .ge 7, 3) := by decide +kernel
theorem dX5_isTrue_80 : decode cX5_isTrue 80 = .ok (.iconst 1, 1) := by decide +kernel
theorem dX5_isTrue_81 : decode cX5_isTrue 81 = .ok (.goto 4, 3) := by decide +kernel
theorem dX5_isTrue_84 : decode cX5_isTrue 84 = .ok (.iconst 0, 1) := by decide +kernel
theorem dX5_isTrue_85 : decode cX5_isTrue 85 = .ok (.ireturn, 1) := by decide +kernel
theorem dX5_isTrue_86 : decode cX5_isTrue 86 = .ok (.iload_n 3, 1) := by decide +kernel
theorem dX5_isTrue_87 : decode cX5_isTrue 87 = .ok (.ifCond .ne 7, 3) := by decide +kernel
theorem dX5_isTrue_90 : decode cX5_isTrue 90 = .ok (.iconst 1, 1) := by decide +kernel
theorem dX5_isTrue_91 : decode cX5_isTrue 91 = .ok (.goto 4, 3) := by decide +kernel
theorem dX5_isTrue_94 : decode cX5_isTrue 94 = .ok (.iconst 0, 1) := by decide +kernel
theorem dX5_isTrue_95 : decode cX5_isTrue 95 = .ok (.ireturn, 1) := by decide +kernel
theorem dX5_isTrue_96 : decode cX5_isTrue 96 = .ok (.iload_n 3, 1) := by decide +kernel
theorem dX5_isTrue_97 : decode cX5_isTrue 97 = .ok (.ifCond .eq 7, 3) := by decide +kernel
theorem dX5_isTrue_100 : decode cX5_isTrue 100 = .ok (.iconst 1, 1) := by decide +kernel
theorem dX5_isTrue_101 : decode cX5_isTrue 101 = .ok (.goto 4, 3) := by decide +kernel
theorem dX5_isTrue_104 : decode cX5_isTrue 104 = .ok (.iconst 0, 1) := by decide +kernel
theorem dX5_isTrue_105 : decode cX5_isTrue 105 = .ok (.ireturn, 1) := by decide +kernel
theorem dX5_link_0 : decode cX5_link 0 = .ok (.iconst 0, 1) := by decide +kernel
theorem dX5_link_1 : decode cX5_link 1 = .ok (.istore_n 1, 1) := by decide +kernel
theorem dX5_link_2 : decode cX5_link 2 = .ok (.iload_n 1, 1) := by decide +kernel
theorem dX5_link_3 : decode cX5_link 3 = .ok (.aload_n 0, 1) := by decide +kernel
theorem dX5_link_4 : decode cX5_link 4 = .ok (.getfield 36, 3) := by decide +kernel
theorem dX5_link_7 : decode cX5_link 7 = .ok (.if_icmp .ge 78, 3) := by decide +kernel
theorem dX5_link_10 : decode cX5_link 10 = .ok (.aload_n 0, 1) := by decide +kernel
theorem dX5_link_11 : decode cX5_link 11 = .ok (.getfield 21, 3) := by decide +kernel
theorem dX5_link_14 : decode cX5_link 14 = .ok (.iload_n 1, 1) := by decide +kernel
theorem dX5_link_15 : decode cX5_link 15 = .ok (.iaload, 1) := by decide +kernel
theorem dX5_link_16 : decode cX5_link 16 = .ok (.istore_n 2, 1) := by decide +kernel
theorem dX5_link_17 : decode cX5_link 17 = .ok (.iload_n 2, 1) := by decide +kernel
theorem dX5_link_18 : decode cX5_link 18 = .ok (.iconst (-1), 1) := by decide +kernel
theorem dX5_link_19 : decode cX5_link 19 = .ok (.if_icmp .eq 18, 3) := by decide +kernel
theorem dX5_link_22 : decode cX5_link 22 = .ok (.aload_n 0, 1) := by decide +kernel
theorem dX5_link_23 : decode cX5_link 23 = .ok (.getfield 27, 3) := by decide +kernel
theorem dX5_link_26 : decode cX5_link 26 = .ok (.iload_n 1, 1) := by decide +kernel
theorem dX5_link_27 : decode cX5_link 27 = .ok (.iaload, 1) := by decide +kernel
theorem dX5_link_28 : decode cX5_link 28 = .ok (.aload_n 0, 1) := by decide +kernel
theorem dX5_link_29 : decode cX5_link 29 = .ok (.iload_n 2, 1) := by decide +kernel
theorem dX5_link_30 : decode cX5_link 30 = .ok (.iload_n 1, 1) := by decide +kernel
theorem dX5_link_31 : decode cX5_link 31 = .ok (.invokevirtual 40, 3) := by decide +kernel
theorem dX5_link_34 : decode cX5_link 34 = .ok (.if_icmp .eq 18, 3) := by decide +kernel
theorem dX5_link_37 : decode cX5_link 37 = .ok (.aload_n 0, 1) := by decide +kernel
theorem dX5_link_38 : decode cX5_link 38 = .ok (.getfield 30, 3) := by decide +kernel
theorem dX5_link_41 : decode cX5_link 41 = .ok (.iload_n 1, 1) := by decide +kernel
theorem dX5_link_42 : decode cX5_link 42 = .ok (.aload_n 0, 1) := by decide +kernel
theorem dX5_link_43 : decode cX5_link 43 = .ok (.getfield 27, 3) := by decide +kernel
theorem dX5_link_46 : decode cX5_link 46 = .ok (.iload_n 1, 1) := by decide +kernel
theorem dX5_link_47 : decode cX5_link 47 = .ok (.iaload, 1) := by decide +kernel
theorem dX5_link_48 : decode cX5_link 48 = .ok (.iastore, 1) := by decide +kernel
theorem dX5_link_49 : decode cX5_link 49 = .ok (.goto 30, 3) := by decide +kernel
theorem dX5_link_52 : decode cX5_link 52 = .ok (.aload_n 0, 1) := by decide +kernel
theorem dX5_link_53 : decode cX5_link 53 = .ok (.getfield 30, 3) := by decide +kernel
theorem dX5_link_56 : decode cX5_link 56 = .ok (.iload_n 1, 1) := by decide +kernel
theorem dX5_link_57 : decode cX5_link 57 = .ok (.aload_n 0, 1) := by decide +kernel
theorem dX5_link_58 : decode cX5_link 58 = .ok (.getfield 11, 3) := by decide +kernel
theorem dX5_link_61 : decode cX5_link 61 = .ok (.iload_n 2, 1) := by decide +kernel
theorem dX5_link_62 : decode cX5_link 62 = .ok (.iaload, 1) := by decide +kernel
theorem dX5_link_63 : decode cX5_link 63 = .ok (.bipush 8, 2) := by decide +kernel
theorem dX5_link_65 : decode cX5_link 65 = .ok (.if_icmp .ne 7, 3) := by decide +kernel
theorem dX5_link_68 : decode cX5_link 68 = .ok (.iload_n 2, 1) := by decide +kernel
theorem dX5_link_69 : decode cX5_link 69 = .ok (.goto 9, 3) := by decide +kernel
theorem dX5_link_72 : decode cX5_link 72 = .ok (.aload_n 0, 1) := by decide +kernel
theorem dX5_link_73 : decode cX5_link 73 = .ok (.getfield 30, 3) := by decide +kernel
theorem dX5_link_76 : decode cX5_link 76 = .ok (.iload_n 2, 1) := by decide +kernel
theorem dX5_link_77 : decode cX5_link 77 = .ok (.iaload, 1) := by decide +kernel
theorem dX5_link_78 : decode cX5_link 78 = .ok (.iastore, 1) := by decide +kernel
theorem dX5_link_79 : decode cX5_link 79 = .ok (.iinc 1 1, 3) := by decide +kernel
theorem dX5_link_82 : decode cX5_link 82 = .ok (.goto (-80), 3) := by decide +kernel
theorem dX5_link_85 : decode cX5_link 85 = .ok (.return_, 1) := by decide +kernel
theorem dX5_weigh_0 : decode cX5_weigh 0 = .ok (.aload_n 0, 1) := by decide +kernel
theorem dX5_weigh_1 : decode cX5_weigh 1 = .ok (.getfield 33, 3) := by decide +kernel
theorem dX5_weigh_4 : decode cX5_weigh 4 = .ok (.iload_n 1, 1) := by decide +kernel
theorem dX5_weigh_5 : decode cX5_weigh 5 = .ok (.bipush 8, 2) := by decide +kernel
theorem dX5_weigh_7 : decode cX5_weigh 7 = .ok (.imul, 1) := by decide +kernel
theorem dX5_weigh_8 : decode cX5_weigh 8 = .ok (.iload_n 2, 1) := by decide +kernel
theorem dX5_weigh_9 : decode cX5_weigh 9 = .ok (.iadd, 1) := by decide +kernel
theorem dX5_weigh_10 : decode cX5_weigh 10 = .ok (.dup2, 1) := by decide +kernel
theorem dX5_weigh_11 : decode cX5_weigh 11 = .ok (.iaload, 1) := by decide +kernel
theorem dX5_weigh_12 : decode cX5_weigh 12 = .ok (.iload_n 3, 1) := by decide +kernel
theorem dX5_weigh_13 : decode cX5_weigh 13 = .ok (.iadd, 1) := by decide +kernel
theorem dX5_weigh_14 : decode cX5_weigh 14 = .ok (.iastore, 1) := by decide +kernel
theorem dX5_weigh_15 : decode cX5_weigh 15 = .ok (.return_, 1) := by decide +kernel
theorem dX5_whenFalse_0 : decode cX5_whenFalse 0 = .ok (.aload_n 0, 1) := by decide +kernel
theorem dX5_whenFalse_1 : decode cX5_whenFalse 1 = .ok (.getfield 11, 3) := by decide +kernel
theorem dX5_whenFalse_4 : decode cX5_whenFalse 4 = .ok (.iload_n 1, 1) := by decide +kernel
theorem dX5_whenFalse_5 : decode cX5_whenFalse 5 = .ok (.iaload, 1) := by decide +kernel
theorem dX5_whenFalse_6 : decode cX5_whenFalse 6 = .ok (.bipush 7, 2) := by decide +kernel
theorem dX5_whenFalse_8 : decode cX5_whenFalse 8 = .ok (.if_icmp .ne 27, 3) := by decide +kernel
theorem dX5_whenFalse_11 : decode cX5_whenFalse 11 = .ok (.aload_n 0, 1) := by decide +kernel
theorem dX5_whenFalse_12 : decode cX5_whenFalse 12 = .ok (.getfield 27, 3) := by decide +kernel
theorem dX5_whenFalse_15 : decode cX5_whenFalse 15 = .ok (.iload_n 1, 1) := by decide +kernel
theorem dX5_whenFalse_16 : decode cX5_whenFalse 16 = .ok (.iaload, 1) := by decide +kernel
theorem dX5_whenFalse_17 : decode cX5_whenFalse 17 = .ok (.aload_n 0, 1) := by decide +kernel
theorem dX5_whenFalse_18 : decode cX5_whenFalse 18 = .ok (.getfield 24, 3) := by decide +kernel
theorem dX5_whenFalse_21 : decode cX5_whenFalse 21 = .ok (.iload_n 1, 1) := by decide +kernel
theorem dX5_whenFalse_22 : decode cX5_whenFalse 22 = .ok (.iaload, 1) := by decide +kernel
theorem dX5_whenFalse_23 : decode cX5_whenFalse 23 = .ok (.if_icmp .le 12, 3) := by decide +kernel
theorem dX5_whenFalse_26 : decode cX5_whenFalse 26 = .ok (.aload_n 0, 1) := by decide +kernel
theorem dX5_whenFalse_27 : decode cX5_whenFalse 27 = .ok (.getfield 24, 3) := by decide +kernel
theorem dX5_whenFalse_30 : decode cX5_whenFalse 30 = .ok (.iload_n 1, 1) := by decide +kernel
theorem dX5_whenFalse_31 : decode cX5_whenFalse 31 = .ok (.iaload, 1) := by decide +kernel
theorem dX5_whenFalse_32 : decode cX5_whenFalse 32 = .ok (.goto 9, 3) := by decide +kernel
theorem dX5_whenFalse_35 : decode cX5_whenFalse 35 = .ok (.aload_n 0, 1) := by decide +kernel
theorem dX5_whenFalse_36 : decode cX5_whenFalse 36 = .ok (.getfield 30, 3) := by decide +kernel
theorem dX5_whenFalse_39 : decode cX5_whenFalse 39 = .ok (.iload_n 1, 1) := by decide +kernel
theorem dX5_whenFalse_40 : decode cX5_whenFalse 40 = .ok (.iaload, 1) := by decide +kernel
theorem dX5_whenFalse_41 : decode cX5_whenFalse 41 = .ok (.ireturn, 1) := by decide +kernel
theorem dX5_whenTrue_0 : decode cX5_whenTrue 0 = .ok (.aload_n 0, 1) := by decide +kernel
theorem dX5_whenTrue_1 : decode cX5_whenTrue 1 = .ok (.getfield 11, 3) := by decide +kernel
theorem dX5_whenTrue_4 : decode cX5_whenTrue 4 = .ok (.iload_n 1, 1) := by decide +kernel
theorem dX5_whenTrue_5 : decode cX5_whenTrue 5 = .ok (.iaload, 1) := by decide +kernel
theorem dX5_whenTrue_6 : decode cX5_whenTrue 6 = .ok (.bipush 8, 2) := by decide +kernel
theorem dX5_whenTrue_8 : decode cX5_whenTrue 8 = .ok (.if_icmp .ne 23, 3) := by decide +kernel
theorem dX5_whenTrue_11 : decode cX5_whenTrue 11 = .ok (.aload_n 0, 1) := by decide +kernel
theorem dX5_whenTrue_12 : decode cX5_whenTrue 12 = .ok (.getfield 27, 3) := by decide +kernel
theorem dX5_whenTrue_15 : decode cX5_whenTrue 15 = .ok (.iload_n 1, 1) := by decide +kernel
theorem dX5_whenTrue_16 : decode cX5_whenTrue 16 = .ok (.iaload, 1) := by decide +kernel
theorem dX5_whenTrue_17 : decode cX5_whenTrue 17 = .ok (.iload_n 1, 1) := by decide +kernel
theorem dX5_whenTrue_18 : decode cX5_whenTrue 18 = .ok (.iconst 1, 1) := by decide +kernel
theorem dX5_whenTrue_19 : decode cX5_whenTrue 19 = .ok (.iadd, 1) := by decide +kernel
theorem dX5_whenTrue_20 : decode cX5_whenTrue 20 = .ok (.if_icmp .le 9, 3) := by decide +kernel
theorem dX5_whenTrue_23 : decode cX5_whenTrue 23 = .ok (.iload_n 1, 1) := by decide +kernel
theorem dX5_whenTrue_24 : decode cX5_whenTrue 24 = .ok (.iconst 1, 1) := by decide +kernel
theorem dX5_whenTrue_25 : decode cX5_whenTrue 25 = .ok (.iadd, 1) := by decide +kernel
theorem dX5_whenTrue_26 : decode cX5_whenTrue 26 = .ok (.goto 4, 3) := by decide +kernel
theorem dX5_whenTrue_29 : decode cX5_whenTrue 29 = .ok (.iload_n 1, 1) := by decide +kernel
theorem dX5_whenTrue_30 : decode cX5_whenTrue 30 = .ok (.ireturn, 1) := by decide +kernel
theorem dX5_whenTrue_31 : decode cX5_whenTrue 31 = .ok (.aload_n 0, 1) := by decide +kernel
theorem dX5_whenTrue_32 : decode cX5_whenTrue 32 = .ok (.getfield 24, 3) := by decide +kernel
theorem dX5_whenTrue_35 : decode cX5_whenTrue 35 = .ok (.iload_n 1, 1) := by decide +kernel
theorem dX5_whenTrue_36 : decode cX5_whenTrue 36 = .ok (.iaload, 1) := by decide +kernel
theorem dX5_whenTrue_37 : decode cX5_whenTrue 37 = .ok (.iload_n 1, 1) := by decide +kernel
theorem dX5_whenTrue_38 : decode cX5_whenTrue 38 = .ok (.iconst 1, 1) := by decide +kernel
theorem dX5_whenTrue_39 : decode cX5_whenTrue 39 = .ok (.iadd, 1) := by decide +kernel
theorem dX5_whenTrue_40 : decode cX5_whenTrue 40 = .ok (.if_icmp .le 9, 3) := by decide +kernel
theorem dX5_whenTrue_43 : decode cX5_whenTrue 43 = .ok (.iload_n 1, 1) := by decide +kernel
theorem dX5_whenTrue_44 : decode cX5_whenTrue 44 = .ok (.iconst 1, 1) := by decide +kernel
theorem dX5_whenTrue_45 : decode cX5_whenTrue 45 = .ok (.iadd, 1) := by decide +kernel
theorem dX5_whenTrue_46 : decode cX5_whenTrue 46 = .ok (.goto 9, 3) := by decide +kernel
theorem dX5_whenTrue_49 : decode cX5_whenTrue 49 = .ok (.aload_n 0, 1) := by decide +kernel
theorem dX5_whenTrue_50 : decode cX5_whenTrue 50 = .ok (.getfield 30, 3) := by decide +kernel
theorem dX5_whenTrue_53 : decode cX5_whenTrue 53 = .ok (.iload_n 1, 1) := by decide +kernel
theorem dX5_whenTrue_54 : decode cX5_whenTrue 54 = .ok (.iaload, 1) := by decide +kernel
theorem dX5_whenTrue_55 : decode cX5_whenTrue 55 = .ok (.ireturn, 1) := by decide +kernel
theorem dX6_addBytes_0 : decode cX6_addBytes 0 = .ok (.bipush 56, 2) := by decide +kernel
theorem dX6_addBytes_2 : decode cX6_addBytes 2 = .ok (.istore_n 3, 1) := by decide +kernel
theorem dX6_addBytes_3 : decode cX6_addBytes 3 = .ok (.iload_n 3, 1) := by decide +kernel
theorem dX6_addBytes_4 : decode cX6_addBytes 4 = .ok (.ifCond .lt 84, 3) := by decide +kernel
theorem dX6_addBytes_7 : decode cX6_addBytes 7 = .ok (.lload_n 1, 1) := by decide +kernel
theorem dX6_addBytes_8 : decode cX6_addBytes 8 = .ok (.iload_n 3, 1) := by decide +kernel
theorem dX6_addBytes_9 : decode cX6_addBytes 9 = .ok (.lushr, 1) := by decide +kernel
theorem dX6_addBytes_10 : decode cX6_addBytes 10 = .ok (.l2i, 1) := by decide +kernel
theorem dX6_addBytes_11 : decode cX6_addBytes 11 = .ok (.sipush 255, 3) := by decide +kernel
theorem dX6_addBytes_14 : decode cX6_addBytes 14 = .ok (.iand, 1) := by decide +kernel
theorem dX6_addBytes_15 : decode cX6_addBytes 15 = .ok (.istore 4, 2) := by decide +kernel
theorem dX6_addBytes_17 : decode cX6_addBytes 17 = .ok (.iload 4, 2) := by decide +kernel
theorem dX6_addBytes_19 : decode cX6_addBytes 19 = .ok (.bipush 10, 2) := by decide +kernel
theorem dX6_addBytes_21 : decode cX6_addBytes 21 = .ok (.if_icmp .eq 17, 3) := by decide +kernel
theorem dX6_addBytes_24 : decode cX6_addBytes 24 = .ok (.iload 4, 2) := by decide +kernel
theorem dX6_addBytes_26 : decode cX6_addBytes 26 = .ok (.bipush 32, 2) := by decide +kernel
theorem dX6_addBytes_28 : decode cX6_addBytes 28 = .ok (.if_icmp .lt 14, 3) := by decide +kernel
theorem dX6_addBytes_31 : decode cX6_addBytes 31 = .ok (.iload 4, 2) := by decide +kernel
theorem dX6_addBytes_33 : decode cX6_addBytes 33 = .ok (.bipush 126, 2) := by decide +kernel
theorem dX6_addBytes_35 : decode cX6_addBytes 35 = .ok (.if_icmp .gt 7, 3) := by decide +kernel
theorem dX6_addBytes_38 : decode cX6_addBytes 38 = .ok (.iconst 1, 1) := by decide +kernel
theorem dX6_addBytes_39 : decode cX6_addBytes 39 = .ok (.goto 4, 3) := by decide +kernel
theorem dX6_addBytes_42 : decode cX6_addBytes 42 = .ok (.iconst 0, 1) := by decide +kernel
theorem dX6_addBytes_43 : decode cX6_addBytes 43 = .ok (.istore 5, 2) := by decide +kernel
theorem dX6_addBytes_45 : decode cX6_addBytes 45 = .ok (.iload 5, 2) := by decide +kernel
theorem dX6_addBytes_47 : decode cX6_addBytes 47 = .ok (.ifCond .eq 35, 3) := by decide +kernel
theorem dX6_addBytes_50 : decode cX6_addBytes 50 = .ok (.aload_n 0, 1) := by decide +kernel
theorem dX6_addBytes_51 : decode cX6_addBytes 51 = .ok (.getfield 13, 3) := by decide +kernel
theorem dX6_addBytes_54 : decode cX6_addBytes 54 = .ok (.sipush 1000, 3) := by decide +kernel
theorem dX6_addBytes_57 : decode cX6_addBytes 57 = .ok (.if_icmp .ge 25, 3) := by decide +kernel
theorem dX6_addBytes_60 : decode cX6_addBytes 60 = .ok (.aload_n 0, 1) := by decide +kernel
theorem dX6_addBytes_61 : decode cX6_addBytes 61 = .ok (.getfield 9, 3) := by decide +kernel
theorem dX6_addBytes_64 : decode cX6_addBytes 64 = .ok (.aload_n 0, 1) := by decide +kernel
theorem dX6_addBytes_65 : decode cX6_addBytes 65 = .ok (.getfield 13, 3) := by decide +kernel
theorem dX6_addBytes_68 : decode cX6_addBytes 68 = .ok (.iload 4, 2) := by decide +kernel
theorem dX6_addBytes_70 : decode cX6_addBytes 70 = .ok (.i2c, 1) := by decide +kernel
theorem dX6_addBytes_71 : decode cX6_addBytes 71 = .ok (.castore, 1) := by decide +kernel
theorem dX6_addBytes_72 : decode cX6_addBytes 72 = .ok (.aload_n 0, 1) := by decide +kernel
theorem dX6_addBytes_73 : decode cX6_addBytes 73 = .ok (.dup, 1) := by decide +kernel
theorem dX6_addBytes_74 : decode cX6_addBytes 74 = .ok (.getfield 13, 3) := by decide +kernel
theorem dX6_addBytes_77 : decode cX6_addBytes 77 = .ok (.iconst 1, 1) := by decide +kernel
theorem dX6_addBytes_78 : decode cX6_addBytes 78 = .ok (.iadd, 1) := by decide +kernel
theorem dX6_addBytes_79 : decode cX6_addBytes 79 = .ok (.putfield 13, 3) := by decide +kernel
theorem dX6_addBytes_82 : decode cX6_addBytes 82 = .ok (.iinc 3 (-8), 3) := by decide +kernel
theorem dX6_addBytes_85 : decode cX6_addBytes 85 = .ok (.goto (-82), 3) := by decide +kernel
theorem dX6_addBytes_88 : decode cX6_addBytes 88 = .ok (.return_, 1) := by decide +kernel
theorem dX6_advance_0 : decode cX6_advance 0 = .ok (.aload_n 0, 1) := by decide +kernel
theorem dX6_advance_1 : decode cX6_advance 1 = .ok (.aload_n 0, 1) := by decide +kernel
theorem dX6_advance_2 : decode cX6_advance 2 = .ok (.getfield 17, 3) := by decide +kernel
theorem dX6_advance_5 : decode cX6_advance 5 = .ok (.putfield 23, 3) := by decide +kernel
theorem dX6_advance_8 : decode cX6_advance 8 = .ok (.aload_n 0, 1) := by decide +kernel
theorem dX6_advance_9 : decode cX6_advance 9 = .ok (.getfield 23, 3) := by decide +kernel
theorem dX6_advance_12 : decode cX6_advance 12 = .ok (.aload_n 0, 1) := by decide +kernel
theorem dX6_advance_13 : decode cX6_advance 13 = .ok (.getfield 13, 3) := by decide +kernel
theorem dX6_advance_16 : decode cX6_advance 16 = .ok (.if_icmp .ge 44, 3) := by decide +kernel
theorem dX6_advance_19 : decode cX6_advance 19 = .ok (.aload_n 0, 1) := by decide +kernel
theorem dX6_advance_20 : decode cX6_advance 20 = .ok (.getfield 9, 3) := by decide +kernel
theorem dX6_advance_23 : decode cX6_advance 23 = .ok (.aload_n 0, 1) := by decide +kernel
theorem dX6_advance_24 : decode cX6_advance 24 = .ok (.getfield 23, 3) := by decide +kernel
theorem dX6_advance_27 : decode cX6_advance 27 = .ok (.caload, 1) := by decide +kernel
theorem dX6_advance_28 : decode cX6_advance 28 = .ok (.bipush 10, 2) := by decide +kernel
theorem dX6_advance_30 : decode cX6_advance 30 = .ok (.if_icmp .eq 17, 3) := by decide +kernel
theorem dX6_advance_33 : decode cX6_advance 33 = .ok (.aload_n 0, 1) := by decide +kernel
theorem dX6_advance_34 : decode cX6_advance 34 = .ok (.getfield 9, 3) := by decide +kernel
theorem dX6_advance_37 : decode cX6_advance 37 = .ok (.aload_n 0, 1) := by decide +kernel
theorem dX6_advance_38 : decode cX6_advance 38 = .ok (.getfield 23, 3) := by decide +kernel
theorem dX6_advance_41 : decode cX6_advance 41 = .ok (.caload, 1) := by decide +kernel
theorem dX6_advance_42 : decode cX6_advance 42 = .ok (.bipush 32, 2) := by decide +kernel
theorem dX6_advance_44 : decode cX6_advance 44 = .ok (.if_icmp .ne 16, 3) := by decide +kernel
theorem dX6_advance_47 : decode cX6_advance 47 = .ok (.aload_n 0, 1) := by decide +kernel
theorem dX6_advance_48 : decode cX6_advance 48 = .ok (.dup, 1) := by decide +kernel
theorem dX6_advance_49 : decode cX6_advance 49 = .ok (.getfield 23, 3) := by decide +kernel
theorem dX6_advance_52 : decode cX6_advance 52 = .ok (.iconst 1, 1) := by decide +kernel
theorem dX6_advance_53 : decode cX6_advance 53 = .ok (.iadd, 1) := by decide +kernel
theorem dX6_advance_54 : decode cX6_advance 54 = .ok (.putfield 23, 3) := by decide +kernel
theorem dX6_advance_57 : decode cX6_advance 57 = .ok (.goto (-49), 3) := by decide +kernel
theorem dX6_advance_60 : decode cX6_advance 60 = .ok (.aload_n 0, 1) := by decide +kernel
theorem dX6_advance_61 : decode cX6_advance 61 = .ok (.getfield 23, 3) := by decide +kernel
theorem dX6_advance_64 : decode cX6_advance 64 = .ok (.aload_n 0, 1) := by decide +kernel
theorem dX6_advance_65 : decode cX6_advance 65 = .ok (.getfield 13, 3) := by decide +kernel
theorem dX6_advance_68 : decode cX6_advance 68 = .ok (.if_icmp .lt 17, 3) := by decide +kernel
theorem dX6_advance_71 : decode cX6_advance 71 = .ok (.aload_n 0, 1) := by decide +kernel
theorem dX6_advance_72 : decode cX6_advance 72 = .ok (.iconst 0, 1) := by decide +kernel
theorem dX6_advance_73 : decode cX6_advance 73 = .ok (.putfield 26, 3) := by decide +kernel
theorem dX6_advance_76 : decode cX6_advance 76 = .ok (.aload_n 0, 1) := by decide +kernel
theorem dX6_advance_77 : decode cX6_advance 77 = .ok (.aload_n 0, 1) := by decide +kernel
theorem dX6_advance_78 : decode cX6_advance 78 = .ok (.getfield 13, 3) := by decide +kernel
theorem dX6_advance_81 : decode cX6_advance 81 = .ok (.putfield 17, 3) := by decide +kernel
theorem dX6_advance_84 : decode cX6_advance 84 = .ok (.return_, 1) := by decide +kernel
theorem dX6_advance_85 : decode cX6_advance 85 = .ok (.aload_n 0, 1) := by decide +kernel
theorem dX6_advance_86 : decode cX6_advance 86 = .ok (.aload_n 0, 1) := by decide +kernel
theorem dX6_advance_87 : decode cX6_advance 87 = .ok (.bipush 97, 2) := by decide +kernel
theorem dX6_advance_89 : decode cX6_advance 89 = .ok (.bipush 122, 2) := by decide +kernel
theorem dX6_advance_91 : decode cX6_advance 91 = .ok (.invokevirtual 29, 3) := by decide +kernel
theorem dX6_advance_94 : decode cX6_advance 94 = .ok (.putfield 17, 3) := by decide +kernel
theorem dX6_advance_97 : decode cX6_advance 97 = .ok (.aload_n 0, 1) := by decide +kernel
theorem dX6_advance_98 : decode cX6_advance 98 = .ok (.getfield 17, 3) := by decide +kernel
theorem dX6_advance_101 : decode cX6_advance 101 = .ok (.aload_n 0, 1) := by decide +kernel
theorem dX6_advance_102 : decode cX6_advance 102 = .ok (.getfield 23, 3) := by decide +kernel
theorem dX6_advance_105 : decode cX6_advance 105 = .ok (.if_icmp .le 27, 3) := by decide +kernel
theorem dX6_advance_108 : decode cX6_advance 108 = .ok (.aload_n 0, 1) := by decide +kernel
theorem dX6_advance_109 : decode cX6_advance 109 = .ok (.aload_n 0, 1) := by decide +kernel
theorem dX6_advance_110 : decode cX6_advance 110 = .ok (.getfield 17, 3) := by decide +kernel
theorem dX6_advance_113 : decode cX6_advance 113 = .ok (.aload_n 0, 1) := by decide +kernel
theorem dX6_advance_114 : decode cX6_advance 114 = .ok (.getfield 23, 3) := by decide +kernel
theorem dX6_advance_117 : decode cX6_advance 117 = .ok (.isub, 1) := by decide +kernel
theorem dX6_advance_118 : decode cX6_advance 118 = .ok (.bipush 8, 2) := by decide +kernel
theorem dX6_advance_120 : decode cX6_advance 120 = .ok (.if_icmp .le 7, 3) := by decide +kernel
theorem dX6_advance_123 : decode cX6_advance 123 = .ok (.iconst 1, 1) := by decide +kernel
theorem dX6_advance_124 : decode cX6_advance 124 = .ok (.goto 4, 3) := by decide +kernel
theorem dX6_advance_127 : decode cX6_advance 127 = .ok (.iconst 2, 1) := by decide +kernel
theorem dX6_advance_128 : decode cX6_advance 128 = .ok (.putfield 26, 3) := by decide +kernel
theorem dX6_advance_131 : decode cX6_advance 131 = .ok (.return_, 1) := by decide +kernel
theorem dX6_advance_132 : decode cX6_advance 132 = .ok (.aload_n 0, 1) := by decide +kernel
theorem dX6_advance_133 : decode cX6_advance 133 = .ok (.aload_n 0, 1) := by decide +kernel
theorem dX6_advance_134 : decode cX6_advance 134 = .ok (.bipush 48, 2) := by decide +kernel
theorem dX6_advance_136 : decode cX6_advance 136 = .ok (.bipush 57, 2) := by decide +kernel
theorem dX6_advance_138 : decode cX6_advance 138 = .ok (.invokevirtual 29, 3) := by decide +kernel
theorem dX6_advance_141 : decode cX6_advance 141 = .ok (.putfield 17, 3) := by decide +kernel
theorem dX6_advance_144 : decode cX6_advance 144 = .ok (.aload_n 0, 1) := by decide +kernel
theorem dX6_advance_145 : decode cX6_advance 145 = .ok (.getfield 17, 3) := by decide +kernel
theorem dX6_advance_148 : decode cX6_advance 148 = .ok (.aload_n 0, 1) := by decide +kernel
theorem dX6_advance_149 : decode cX6_advance 149 = .ok (.getfield 23, 3) := by decide +kernel
theorem dX6_advance_152 : decode cX6_advance 152 = .ok (.if_icmp .le 46, 3) := by decide +kernel
theorem dX6_advance_155 : decode cX6_advance 155 = .ok (.aload_n 0, 1) := by decide +kernel
theorem dX6_advance_156 : decode cX6_advance 156 = .ok (.aload_n 0, 1) := by decide +kernel
theorem dX6_advance_157 : decode cX6_advance 157 = .ok (.getfield 17, 3) := by decide +kernel
theorem dX6_advance_160 : decode cX6_advance 160 = .ok (.aload_n 0, 1) := by decide +kernel
theorem dX6_advance_161 : decode cX6_advance 161 = .ok (.getfield 23, 3) := by decide +kernel
theorem dX6_advance_164 : decode cX6_advance 164 = .ok (.isub, 1) := by decide +kernel
theorem dX6_advance_165 : decode cX6_advance 165 = .ok (.iconst 5, 1) := by decide +kernel
theorem dX6_advance_166 : decode cX6_advance 166 = .ok (.if_icmp .le 7, 3) := by decide +kernel
theorem dX6_advance_169 : decode cX6_advance 169 = .ok (.iconst 1, 1) := by decide +kernel
theorem dX6_advance_170 : decode cX6_advance 170 = .ok (.goto 4, 3) := by decide +kernel
theorem dX6_advance_173 : decode cX6_advance 173 = .ok (.iconst 3, 1) := by decide +kernel
theorem dX6_advance_174 : decode cX6_advance 174 = .ok (.putfield 26, 3) := by decide +kernel
theorem dX6_advance_177 : decode cX6_advance 177 = .ok (.aload_n 0, 1) := by decide +kernel
theorem dX6_advance_178 : decode cX6_advance 178 = .ok (.aload_n 0, 1) := by decide +kernel
theorem dX6_advance_179 : decode cX6_advance 179 = .ok (.getfield 26, 3) := by decide +kernel
theorem dX6_advance_182 : decode cX6_advance 182 = .ok (.iconst 3, 1) := by decide +kernel
theorem dX6_advance_183 : decode cX6_advance 183 = .ok (.if_icmp .ne 10, 3) := by decide +kernel
theorem dX6_advance_186 : decode cX6_advance 186 = .ok (.aload_n 0, 1) := by decide +kernel
theorem dX6_advance_187 : decode cX6_advance 187 = .ok (.invokevirtual 33, 3) := by decide +kernel
theorem dX6_advance_190 : decode cX6_advance 190 = .ok (.goto 4, 3) := by decide +kernel
theorem dX6_advance_193 : decode cX6_advance 193 = .ok (.iconst 0, 1) := by decide +kernel
theorem dX6_advance_194 : decode cX6_advance 194 = .ok (.putfield 37, 3) := by decide +kernel
theorem dX6_advance_197 : decode cX6_advance 197 = .ok (.return_, 1) := by decide +kernel
theorem dX6_advance_198 : decode cX6_advance 198 = .ok (.aload_n 0, 1) := by decide +kernel
theorem dX6_advance_199 : decode cX6_advance 199 = .ok (.aload_n 0, 1) := by decide +kernel
theorem dX6_advance_200 : decode cX6_advance 200 = .ok (.getfield 9, 3) := by decide +kernel
theorem dX6_advance_203 : decode cX6_advance 203 = .ok (.aload_n 0, 1) := by decide +kernel
theorem dX6_advance_204 : decode cX6_advance 204 = .ok (.getfield 23, 3) := by decide +kernel
theorem dX6_advance_207 : decode cX6_advance 207 = .ok (.caload, 1) := by decide +kernel
theorem dX6_advance_208 : decode cX6_advance 208 = .ok (.invokestatic 40, 3) := by decide +kernel
theorem dX6_advance_211 : decode cX6_advance 211 = .ok (.ifCond .eq 15, 3) := by decide +kernel
theorem dX6_advance_214 : decode cX6_advance 214 = .ok (.aload_n 0, 1) := by decide +kernel
theorem dX6_advance_215 : decode cX6_advance 215 = .ok (.getfield 9, 3) := by decide +kernel
theorem dX6_advance_218 : decode cX6_advance 218 = .ok (.aload_n 0, 1) := by decide +kernel
theorem dX6_advance_219 : decode cX6_advance 219 = .ok (.getfield 23, 3) := by decide +kernel
theorem dX6_advance_222 : decode cX6_advance 222 = .ok (.caload, 1) := by decide +kernel
theorem dX6_advance_223 : decode cX6_advance 223 = .ok (.goto 4, 3) := by decide +kernel
theorem dX6_advance_226 : decode cX6_advance 226 = .ok (.iconst 1, 1) := by decide +kernel
theorem dX6_advance_227 : decode cX6_advance 227 = .ok (.putfield 26, 3) := by decide +kernel
theorem dX6_advance_230 : decode cX6_advance 230 = .ok (.aload_n 0, 1) := by decide +kernel
theorem dX6_advance_231 : decode cX6_advance 231 = .ok (.aload_n 0, 1) := by decide +kernel
theorem dX6_advance_232 : decode cX6_advance 232 = .ok (.getfield 23, 3) := by decide +kernel
theorem dX6_advance_235 : decode cX6_advance 235 = .ok (.iconst 1, 1) := by decide +kernel
theorem dX6_advance_236 : decode cX6_advance 236 = .ok (.iadd, 1) := by decide +kernel
theorem dX6_advance_237 : decode cX6_advance 237 = .ok (.putfield 17, 3) := by decide +kernel
theorem dX6_advance_240 : decode cX6_advance 240 = .ok (.return_, 1) := by decide +kernel
theorem dX6_endOfRun_0 : decode cX6_endOfRun 0 = .ok (.aload_n 0, 1) := by decide +kernel
theorem dX6_endOfRun_1 : decode cX6_endOfRun 1 = .ok (.getfield 23, 3) := by decide +kernel
theorem dX6_endOfRun_4 : decode cX6_endOfRun 4 = .ok (.istore_n 3, 1) := by decide +kernel
theorem dX6_endOfRun_5 : decode cX6_endOfRun 5 = .ok (.iload_n 3, 1) := by decide +kernel
theorem dX6_endOfRun_6 : decode cX6_endOfRun 6 = .ok (.aload_n 0, 1) := by decide +kernel
theorem dX6_endOfRun_7 : decode cX6_endOfRun 7 = .ok (.getfield 13, 3) := by decide +kernel
theorem dX6_endOfRun_10 : decode cX6_endOfRun 10 = .ok (.if_icmp .ge 29, 3) := by decide +kernel
theorem dX6_endOfRun_13 : decode cX6_endOfRun 13 = .ok (.aload_n 0, 1) := by decide +kernel
theorem dX6_endOfRun_14 : decode cX6_endOfRun 14 = .ok (.getfield 9, 3) := by decide +kernel
theorem dX6_endOfRun_17 : decode cX6_endOfRun 17 = .ok (.iload_n 3, 1) := by decide +kernel
theorem dX6_endOfRun_18 : decode cX6_endOfRun 18 = .ok (.caload, 1) := by decide +kernel
theorem dX6_endOfRun_19 : decode cX6_endOfRun 19 = .ok (.iload_n 1, 1) := by decide +kernel
theorem dX6_endOfRun_20 : decode cX6_endOfRun 20 = .ok (.if_icmp .lt 19, 3) := by decide +kernel
theorem dX6_endOfRun_23 : decode cX6_endOfRun 23 = .ok (.aload_n 0, 1) := by decide +kernel
theorem dX6_endOfRun_24 : decode cX6_endOfRun 24 = .ok (.getfield 9, 3) := by decide +kernel
theorem dX6_endOfRun_27 : decode cX6_endOfRun 27 = .ok (.iload_n 3, 1) := by decide +kernel
theorem dX6_endOfRun_28 : decode cX6_endOfRun 28 = .ok (.caload, 1) := by decide +kernel
theorem dX6_endOfRun_29 : decode cX6_endOfRun 29 = .ok (.iload_n 2, 1) := by decide +kernel
theorem dX6_endOfRun_30 : decode cX6_endOfRun 30 = .ok (.if_icmp .gt 9, 3) := by decide +kernel
theorem dX6_endOfRun_33 : decode cX6_endOfRun 33 = .ok (.iinc 3 1, 3) := by decide +kernel
theorem dX6_endOfRun_36 : decode cX6_endOfRun 36 = .ok (.goto (-31), 3) := by decide +kernel
theorem dX6_endOfRun_39 : decode cX6_endOfRun 39 = .ok (.iload_n 3, 1) := by decide +kernel
theorem dX6_endOfRun_40 : decode cX6_endOfRun 40 = .ok (.ireturn, 1) := by decide +kernel
theorem dX6_init_0 : decode cX6_init 0 = .ok (.aload_n 0, 1) := by decide +kernel
theorem dX6_init_1 : decode cX6_init 1 = .ok (.invokespecial 1, 3) := by decide +kernel
theorem dX6_init_4 : decode cX6_init 4 = .ok (.aload_n 0, 1) := by decide +kernel
theorem dX6_init_5 : decode cX6_init 5 = .ok (.sipush 1000, 3) := by decide +kernel
theorem dX6_init_8 : decode cX6_init 8 = .ok (.newarray .char, 2) := by decide +kernel
theorem dX6_init_10 : decode cX6_init 10 = .ok (.putfield 9, 3) := by decide +kernel
theorem dX6_init_13 : decode cX6_init 13 = .ok (.return_, 1) := by decide +kernel
theorem dX6_isSign_0 : decode cX6_isSign 0 = .ok (.iload_n 0, 1) := by decide +kernel
theorem dX6_isSign_1 : decode cX6_isSign 1 = .ok (.bipush 123, 2) := by decide +kernel
theorem dX6_isSign_3 : decode cX6_isSign 3 = .ok (.if_icmp .eq 39, 3) := by decide +kernel
theorem dX6_isSign_6 : decode cX6_isSign 6 = .ok (.iload_n 0, 1) := by decide +kernel
theorem dX6_isSign_7 : decode cX6_isSign 7 = .ok (.bipush 125, 2) := by decide +kernel
theorem dX6_isSign_9 : decode cX6_isSign 9 = .ok (.if_icmp .eq 33, 3) := by decide +kernel
theorem dX6_isSign_12 : decode cX6_isSign 12 = .ok (.iload_n 0, 1) := by decide +kernel
theorem dX6_isSign_13 : decode cX6_isSign 13 = .ok (.bipush 60, 2) := by decide +kernel
theorem dX6_isSign_15 : decode cX6_isSign 15 = .ok (.if_icmp .eq 27, 3) := by decide +kernel
theorem dX6_isSign_18 : decode cX6_isSign 18 = .ok (.iload_n 0, 1) := by decide +kernel
theorem dX6_isSign_19 : decode cX6_isSign 19 = .ok (.bipush 61, 2) := by decide +kernel
theorem dX6_isSign_21 : decode cX6_isSign 21 = .ok (.if_icmp .eq 21, 3) := by decide +kernel
theorem dX6_isSign_24 : decode cX6_isSign 24 = .ok (.iload_n 0, 1) := by decide +kernel
theorem dX6_isSign_25 : decode cX6_isSign 25 = .ok (.bipush 43, 2) := by decide +kernel
theorem dX6_isSign_27 : decode cX6_isSign 27 = .ok (.if_icmp .eq 15, 3) := by decide +kernel
theorem dX6_isSign_30 : decode cX6_isSign 30 = .ok (.iload_n 0, 1) := by decide +kernel
theorem dX6_isSign_31 : decode cX6_isSign 31 = .ok (.bipush 45, 2) := by decide +kernel
theorem dX6_isSign_33 : decode cX6_isSign 33 = .ok (.if_icmp .eq 9, 3) := by decide +kernel
theorem dX6_isSign_36 : decode cX6_isSign 36 = .ok (.iload_n 0, 1) := by decide +kernel
theorem dX6_isSign_37 : decode cX6_isSign 37 = .ok (.bipush 59, 2) := by decide +kernel
theorem dX6_isSign_39 : decode cX6_isSign 39 = .ok (.if_icmp .ne 7, 3) := by decide +kernel
theorem dX6_isSign_42 : decode cX6_isSign 42 = .ok (.iconst 1, 1) := by decide +kernel
theorem dX6_isSign_43 : decode cX6_isSign 43 = .ok (.goto 4, 3) := by decide +kernel
theorem dX6_isSign_46 : decode cX6_isSign 46 = .ok (.iconst 0, 1) := by decide +kernel
theorem dX6_isSign_47 : decode cX6_isSign 47 = .ok (.ireturn, 1) := by decide +kernel
theorem dX6_numberHere_0 : decode cX6_numberHere 0 = .ok (.iconst 0, 1) := by decide +kernel
theorem dX6_numberHere_1 : decode cX6_numberHere 1 = .ok (.istore_n 1, 1) := by decide +kernel
theorem dX6_numberHere_2 : decode cX6_numberHere 2 = .ok (.aload_n 0, 1) := by decide +kernel
theorem dX6_numberHere_3 : decode cX6_numberHere 3 = .ok (.getfield 23, 3) := by decide +kernel
theorem dX6_numberHere_6 : decode cX6_numberHere 6 = .ok (.istore_n 2, 1) := by decide +kernel
theorem dX6_numberHere_7 : decode cX6_numberHere 7 = .ok (.iload_n 2, 1) := by decide +kernel
theorem dX6_numberHere_8 : decode cX6_numberHere 8 = .ok (.aload_n 0, 1) := by decide +kernel
theorem dX6_numberHere_9 : decode cX6_numberHere 9 = .ok (.getfield 17, 3) := by decide +kernel
theorem dX6_numberHere_12 : decode cX6_numberHere 12 = .ok (.if_icmp .ge 24, 3) := by decide +kernel
theorem dX6_numberHere_15 : decode cX6_numberHere 15 = .ok (.iload_n 1, 1) := by decide +kernel
theorem dX6_numberHere_16 : decode cX6_numberHere 16 = .ok (.bipush 10, 2) := by decide +kernel
theorem dX6_numberHere_18 : decode cX6_numberHere 18 = .ok (.imul, 1) := by decide +kernel
theorem dX6_numberHere_19 : decode cX6_numberHere 19 = .ok (.aload_n 0, 1) := by decide +kernel
theorem dX6_numberHere_20 : decode cX6_numberHere 20 = .ok (.getfield 9, 3) := by decide +kernel
theorem dX6_numberHere_23 : decode cX6_numberHere 23 = .ok (.iload_n 2, 1) := by decide +kernel
theorem dX6_numberHere_24 : decode cX6_numberHere 24 = .ok (.caload, 1) := by decide +kernel
theorem dX6_numberHere_25 : decode cX6_numberHere 25 = .ok (.bipush 48, 2) := by decide +kernel
theorem dX6_numberHere_27 : decode cX6_numberHere 27 = .ok (.isub, 1) := by decide +kernel
theorem dX6_numberHere_28 : decode cX6_numberHere 28 = .ok (.iadd, 1) := by decide +kernel
theorem dX6_numberHere_29 : decode cX6_numberHere 29 = .ok (.istore_n 1, 1) := by decide +kernel
theorem dX6_numberHere_30 : decode cX6_numberHere 30 = .ok (.iinc 2 1, 3) := by decide +kernel
theorem dX6_numberHere_33 : decode cX6_numberHere 33 = .ok (.goto (-26), 3) := by decide +kernel
theorem dX6_numberHere_36 : decode cX6_numberHere 36 = .ok (.iload_n 1, 1) := by decide +kernel
theorem dX6_numberHere_37 : decode cX6_numberHere 37 = .ok (.ireturn, 1) := by decide +kernel
theorem dX6_rewind_0 : decode cX6_rewind 0 = .ok (.aload_n 0, 1) := by decide +kernel
theorem dX6_rewind_1 : decode cX6_rewind 1 = .ok (.iconst 0, 1) := by decide +kernel
theorem dX6_rewind_2 : decode cX6_rewind 2 = .ok (.putfield 17, 3) := by decide +kernel
theorem dX6_rewind_5 : decode cX6_rewind 5 = .ok (.aload_n 0, 1) := by decide +kernel
theorem dX6_rewind_6 : decode cX6_rewind 6 = .ok (.invokevirtual 20, 3) := by decide +kernel
theorem dX6_rewind_9 : decode cX6_rewind 9 = .ok (.return_, 1) := by decide +kernel
theorem dX6_spells_0 : decode cX6_spells 0 = .ok (.aload_n 0, 1) := by decide +kernel
theorem dX6_spells_1 : decode cX6_spells 1 = .ok (.getfield 26, 3) := by decide +kernel
theorem dX6_spells_4 : decode cX6_spells 4 = .ok (.iconst 2, 1) := by decide +kernel
theorem dX6_spells_5 : decode cX6_spells 5 = .ok (.if_icmp .ne 19, 3) := by decide +kernel
theorem dX6_spells_8 : decode cX6_spells 8 = .ok (.aload_n 0, 1) := by decide +kernel
theorem dX6_spells_9 : decode cX6_spells 9 = .ok (.getfield 17, 3) := by decide +kernel
theorem dX6_spells_12 : decode cX6_spells 12 = .ok (.aload_n 0, 1) := by decide +kernel
theorem dX6_spells_13 : decode cX6_spells 13 = .ok (.getfield 23, 3) := by decide +kernel
theorem dX6_spells_16 : decode cX6_spells 16 = .ok (.isub, 1) := by decide +kernel
theorem dX6_spells_17 : decode cX6_spells 17 = .ok (.aload_n 1, 1) := by decide +kernel
theorem dX6_spells_18 : decode cX6_spells 18 = .ok (.invokevirtual 44, 3) := by decide +kernel
theorem dX6_spells_21 : decode cX6_spells 21 = .ok (.if_icmp .eq 5, 3) := by decide +kernel
theorem dX6_spells_24 : decode cX6_spells 24 = .ok (.iconst 0, 1) := by decide +kernel
theorem dX6_spells_25 : decode cX6_spells 25 = .ok (.ireturn, 1) := by decide +kernel
theorem dX6_spells_26 : decode cX6_spells 26 = .ok (.iconst 0, 1) := by decide +kernel
theorem dX6_spells_27 : decode cX6_spells 27 = .ok (.istore_n 2, 1) := by decide +kernel
theorem dX6_spells_28 : decode cX6_spells 28 = .ok (.iload_n 2, 1) := by decide +kernel
theorem dX6_spells_29 : decode cX6_spells 29 = .ok (.aload_n 1, 1) := by decide +kernel
theorem dX6_spells_30 : decode cX6_spells 30 = .ok (.invokevirtual 44, 3) := by decide +kernel
theorem dX6_spells_33 : decode cX6_spells 33 = .ok (.if_icmp .ge 30, 3) := by decide +kernel
theorem dX6_spells_36 : decode cX6_spells 36 = .ok (.aload_n 0, 1) := by decide +kernel
theorem dX6_spells_37 : decode cX6_spells 37 = .ok (.getfield 9, 3) := by decide +kernel
theorem dX6_spells_40 : decode cX6_spells 40 = .ok (.aload_n 0, 1) := by decide +kernel
theorem dX6_spells_41 : decode cX6_spells 41 = .ok (.getfield 23, 3) := by decide +kernel
theorem dX6_spells_44 : decode cX6_spells 44 = .ok (.iload_n 2, 1) := by decide +kernel
theorem dX6_spells_45 : decode cX6_spells 45 = .ok (.iadd, 1) := by decide +kernel
theorem dX6_spells_46 : decode cX6_spells 46 = .ok (.caload, 1) := by decide +kernel
theorem dX6_spells_47 : decode cX6_spells 47 = .ok (.aload_n 1, 1) := by decide +kernel
theorem dX6_spells_48 : decode cX6_spells 48 = .ok (.iload_n 2, 1) := by decide +kernel
theorem dX6_spells_49 : decode cX6_spells 49 = .ok (.invokevirtual 48, 3) := by decide +kernel
theorem dX6_spells_52 : decode cX6_spells 52 = .ok (.if_icmp .eq 5, 3) := by decide +kernel
theorem dX6_spells_55 : decode cX6_spells 55 = .ok (.iconst 0, 1) := by decide +kernel
theorem dX6_spells_56 : decode cX6_spells 56 = .ok (.ireturn, 1) := by decide +kernel
theorem dX6_spells_57 : decode cX6_spells 57 = .ok (.iinc 2 1, 3) := by decide +kernel
theorem dX6_spells_60 : decode cX6_spells 60 = .ok (.goto (-32), 3) := by decide +kernel
theorem dX6_spells_63 : decode cX6_spells 63 = .ok (.iconst 1, 1) := by decide +kernel
theorem dX6_spells_64 : decode cX6_spells 64 = .ok (.ireturn, 1) := by decide +kernel
theorem dX7_blow_0 : decode cX7_blow 0 = .ok (.aload_n 0, 1) := by decide +kernel
theorem dX7_blow_1 : decode cX7_blow 1 = .ok (.iconst 1, 1) := by decide +kernel
theorem dX7_blow_2 : decode cX7_blow 2 = .ok (.putfield 30, 3) := by decide +kernel
theorem dX7_blow_5 : decode cX7_blow 5 = .ok (.aload_n 0, 1) := by decide +kernel
theorem dX7_blow_6 : decode cX7_blow 6 = .ok (.iload_n 1, 1) := by decide +kernel
theorem dX7_blow_7 : decode cX7_blow 7 = .ok (.invokevirtual 34, 3) := by decide +kernel
theorem dX7_blow_10 : decode cX7_blow 10 = .ok (.return_, 1) := by decide +kernel
theorem dX7_find_0 : decode cX7_find 0 = .ok (.iconst 0, 1) := by decide +kernel
theorem dX7_find_1 : decode cX7_find 1 = .ok (.istore_n 2, 1) := by decide +kernel
theorem dX7_find_2 : decode cX7_find 2 = .ok (.aload_n 0, 1) := by decide +kernel
theorem dX7_find_3 : decode cX7_find 3 = .ok (.iconst 0, 1) := by decide +kernel
theorem dX7_find_4 : decode cX7_find 4 = .ok (.putfield 38, 3) := by decide +kernel
theorem dX7_find_7 : decode cX7_find 7 = .ok (.aload_n 0, 1) := by decide +kernel
theorem dX7_find_8 : decode cX7_find 8 = .ok (.iconst 0, 1) := by decide +kernel
theorem dX7_find_9 : decode cX7_find 9 = .ok (.putfield 41, 3) := by decide +kernel
theorem dX7_find_12 : decode cX7_find 12 = .ok (.iconst 0, 1) := by decide +kernel
theorem dX7_find_13 : decode cX7_find 13 = .ok (.istore_n 3, 1) := by decide +kernel
theorem dX7_find_14 : decode cX7_find 14 = .ok (.iload_n 3, 1) := by decide +kernel
theorem dX7_find_15 : decode cX7_find 15 = .ok (.aload_n 0, 1) := by decide +kernel
theorem dX7_find_16 : decode cX7_find 16 = .ok (.getfield 26, 3) := by decide +kernel
theorem dX7_find_19 : decode cX7_find 19 = .ok (.if_icmp .ge 56, 3) := by decide +kernel
theorem dX7_find_22 : decode cX7_find 22 = .ok (.aload_n 0, 1) := by decide +kernel
theorem dX7_find_23 : decode cX7_find 23 = .ok (.getfield 9, 3) := by decide +kernel
theorem dX7_find_26 : decode cX7_find 26 = .ok (.iload_n 3, 1) := by decide +kernel
theorem dX7_find_27 : decode cX7_find 27 = .ok (.iaload, 1) := by decide +kernel
theorem dX7_find_28 : decode cX7_find 28 = .ok (.iload_n 1, 1) := by decide +kernel
theorem dX7_find_29 : decode cX7_find 29 = .ok (.if_icmp .gt 40, 3) := by decide +kernel
theorem dX7_find_32 : decode cX7_find 32 = .ok (.aload_n 0, 1) := by decide +kernel
theorem dX7_find_33 : decode cX7_find 33 = .ok (.getfield 9, 3) := by decide +kernel
theorem dX7_find_36 : decode cX7_find 36 = .ok (.iload_n 3, 1) := by decide +kernel
theorem dX7_find_37 : decode cX7_find 37 = .ok (.iaload, 1) := by decide +kernel
theorem dX7_find_38 : decode cX7_find 38 = .ok (.iload_n 2, 1) := by decide +kernel
theorem dX7_find_39 : decode cX7_find 39 = .ok (.if_icmp .lt 30, 3) := by decide +kernel
theorem dX7_find_42 : decode cX7_find 42 = .ok (.aload_n 0, 1) := by decide +kernel
theorem dX7_find_43 : decode cX7_find 43 = .ok (.getfield 9, 3) := by decide +kernel
theorem dX7_find_46 : decode cX7_find 46 = .ok (.iload_n 3, 1) := by decide +kernel
theorem dX7_find_47 : decode cX7_find 47 = .ok (.iaload, 1) := by decide +kernel
theorem dX7_find_48 : decode cX7_find 48 = .ok (.istore_n 2, 1) := by decide +kernel
theorem dX7_find_49 : decode cX7_find 49 = .ok (.aload_n 0, 1) := by decide +kernel
theorem dX7_find_50 : decode cX7_find 50 = .ok (.aload_n 0, 1) := by decide +kernel
theorem dX7_find_51 : decode cX7_find 51 = .ok (.getfield 13, 3) := by decide +kernel
theorem dX7_find_54 : decode cX7_find 54 = .ok (.iload_n 3, 1) := by decide +kernel
theorem dX7_find_55 : decode cX7_find 55 = .ok (.iaload, 1) := by decide +kernel
theorem dX7_find_56 : decode cX7_find 56 = .ok (.putfield 38, 3) := by decide +kernel
theorem dX7_find_59 : decode cX7_find 59 = .ok (.aload_n 0, 1) := by decide +kernel
theorem dX7_find_60 : decode cX7_find 60 = .ok (.aload_n 0, 1) := by decide +kernel
theorem dX7_find_61 : decode cX7_find 61 = .ok (.getfield 16, 3) := by decide +kernel
theorem dX7_find_64 : decode cX7_find 64 = .ok (.iload_n 3, 1) := by decide +kernel
theorem dX7_find_65 : decode cX7_find 65 = .ok (.iaload, 1) := by decide +kernel
theorem dX7_find_66 : decode cX7_find 66 = .ok (.putfield 41, 3) := by decide +kernel
theorem dX7_find_69 : decode cX7_find 69 = .ok (.iinc 3 1, 3) := by decide +kernel
theorem dX7_find_72 : decode cX7_find 72 = .ok (.goto (-58), 3) := by decide +kernel
theorem dX7_find_75 : decode cX7_find 75 = .ok (.return_, 1) := by decide +kernel
theorem dX7_init_0 : decode cX7_init 0 = .ok (.aload_n 0, 1) := by decide +kernel
theorem dX7_init_1 : decode cX7_init 1 = .ok (.invokespecial 1, 3) := by decide +kernel
theorem dX7_init_4 : decode cX7_init 4 = .ok (.aload_n 0, 1) := by decide +kernel
theorem dX7_init_5 : decode cX7_init 5 = .ok (.bipush 60, 2) := by decide +kernel
theorem dX7_init_7 : decode cX7_init 7 = .ok (.newarray .int, 2) := by decide +kernel
theorem dX7_init_9 : decode cX7_init 9 = .ok (.putfield 9, 3) := by decide +kernel
theorem dX7_init_12 : decode cX7_init 12 = .ok (.aload_n 0, 1) := by decide +kernel
theorem dX7_init_13 : decode cX7_init 13 = .ok (.bipush 60, 2) := by decide +kernel
theorem dX7_init_15 : decode cX7_init 15 = .ok (.newarray .int, 2) := by decide +kernel
theorem dX7_init_17 : decode cX7_init 17 = .ok (.putfield 13, 3) := by decide +kernel
theorem dX7_init_20 : decode cX7_init 20 = .ok (.aload_n 0, 1) := by decide +kernel
theorem dX7_init_21 : decode cX7_init 21 = .ok (.bipush 60, 2) := by decide +kernel
theorem dX7_init_23 : decode cX7_init 23 = .ok (.newarray .int, 2) := by decide +kernel
theorem dX7_init_25 : decode cX7_init 25 = .ok (.putfield 16, 3) := by decide +kernel
theorem dX7_init_28 : decode cX7_init 28 = .ok (.return_, 1) := by decide +kernel
theorem dX7_tell_0 : decode cX7_tell 0 = .ok (.iload_n 1, 1) := by decide +kernel
theorem dX7_tell_1 : decode cX7_tell 1 = .ok (.ifCond .lt 17, 3) := by decide +kernel
theorem dX7_tell_4 : decode cX7_tell 4 = .ok (.iload_n 1, 1) := by decide +kernel
theorem dX7_tell_5 : decode cX7_tell 5 = .ok (.ldc 19, 2) := by decide +kernel
theorem dX7_tell_7 : decode cX7_tell 7 = .ok (.if_icmp .gt 11, 3) := by decide +kernel
theorem dX7_tell_10 : decode cX7_tell 10 = .ok (.iload_n 2, 1) := by decide +kernel
theorem dX7_tell_11 : decode cX7_tell 11 = .ok (.iload_n 3, 1) := by decide +kernel
theorem dX7_tell_12 : decode cX7_tell 12 = .ok (.invokestatic 20, 3) := by decide +kernel
theorem dX7_tell_15 : decode cX7_tell 15 = .ok (.ifCond .ne 5, 3) := by decide +kernel
theorem dX7_tell_18 : decode cX7_tell 18 = .ok (.iconst 0, 1) := by decide +kernel
theorem dX7_tell_19 : decode cX7_tell 19 = .ok (.ireturn, 1) := by decide +kernel
theorem dX7_tell_20 : decode cX7_tell 20 = .ok (.aload_n 0, 1) := by decide +kernel
theorem dX7_tell_21 : decode cX7_tell 21 = .ok (.getfield 26, 3) := by decide +kernel
theorem dX7_tell_24 : decode cX7_tell 24 = .ok (.bipush 60, 2) := by decide +kernel
theorem dX7_tell_26 : decode cX7_tell 26 = .ok (.if_icmp .lt 5, 3) := by decide +kernel
theorem dX7_tell_29 : decode cX7_tell 29 = .ok (.iconst 0, 1) := by decide +kernel
theorem dX7_tell_30 : decode cX7_tell 30 = .ok (.ireturn, 1) := by decide +kernel
theorem dX7_tell_31 : decode cX7_tell 31 = .ok (.aload_n 0, 1) := by decide +kernel
theorem dX7_tell_32 : decode cX7_tell 32 = .ok (.getfield 9, 3) := by decide +kernel
theorem dX7_tell_35 : decode cX7_tell 35 = .ok (.aload_n 0, 1) := by decide +kernel
theorem dX7_tell_36 : decode cX7_tell 36 = .ok (.getfield 26, 3) := by decide +kernel
theorem dX7_tell_39 : decode cX7_tell 39 = .ok (.iload_n 1, 1) := by decide +kernel
theorem dX7_tell_40 : decode cX7_tell 40 = .ok (.iastore, 1) := by decide +kernel
theorem dX7_tell_41 : decode cX7_tell 41 = .ok (.aload_n 0, 1) := by decide +kernel
theorem dX7_tell_42 : decode cX7_tell 42 = .ok (.getfield 13, 3) := by decide +kernel
theorem dX7_tell_45 : decode cX7_tell 45 = .ok (.aload_n 0, 1) := by decide +kernel
theorem dX7_tell_46 : decode cX7_tell 46 = .ok (.getfield 26, 3) := by decide +kernel
theorem dX7_tell_49 : decode cX7_tell 49 = .ok (.iload_n 2, 1) := by decide +kernel
theorem dX7_tell_50 : decode cX7_tell 50 = .ok (.iastore, 1) := by decide +kernel
theorem dX7_tell_51 : decode cX7_tell 51 = .ok (.aload_n 0, 1) := by decide +kernel
theorem dX7_tell_52 : decode cX7_tell 52 = .ok (.getfield 16, 3) := by decide +kernel
theorem dX7_tell_55 : decode cX7_tell 55 = .ok (.aload_n 0, 1) := by decide +kernel
theorem dX7_tell_56 : decode cX7_tell 56 = .ok (.getfield 26, 3) := by decide +kernel
theorem dX7_tell_59 : decode cX7_tell 59 = .ok (.iload_n 3, 1) := by decide +kernel
theorem dX7_tell_60 : decode cX7_tell 60 = .ok (.iastore, 1) := by decide +kernel
theorem dX7_tell_61 : decode cX7_tell 61 = .ok (.aload_n 0, 1) := by decide +kernel
theorem dX7_tell_62 : decode cX7_tell 62 = .ok (.dup, 1) := by decide +kernel
theorem dX7_tell_63 : decode cX7_tell 63 = .ok (.getfield 26, 3) := by decide +kernel
theorem dX7_tell_66 : decode cX7_tell 66 = .ok (.iconst 1, 1) := by decide +kernel
theorem dX7_tell_67 : decode cX7_tell 67 = .ok (.iadd, 1) := by decide +kernel
theorem dX7_tell_68 : decode cX7_tell 68 = .ok (.putfield 26, 3) := by decide +kernel
theorem dX7_tell_71 : decode cX7_tell 71 = .ok (.aload_n 0, 1) := by decide +kernel
theorem dX7_tell_72 : decode cX7_tell 72 = .ok (.getfield 30, 3) := by decide +kernel
theorem dX7_tell_75 : decode cX7_tell 75 = .ok (.ifCond .ne 8, 3) := by decide +kernel
theorem dX7_tell_78 : decode cX7_tell 78 = .ok (.aload_n 0, 1) := by decide +kernel
theorem dX7_tell_79 : decode cX7_tell 79 = .ok (.iconst 0, 1) := by decide +kernel
theorem dX7_tell_80 : decode cX7_tell 80 = .ok (.invokevirtual 34, 3) := by decide +kernel
theorem dX7_tell_83 : decode cX7_tell 83 = .ok (.iconst 1, 1) := by decide +kernel
theorem dX7_tell_84 : decode cX7_tell 84 = .ok (.ireturn, 1) := by decide +kernel
theorem dX8_beginWork_0 : decode cX8_beginWork 0 = .ok (.aload_n 0, 1) := by decide +kernel
theorem dX8_beginWork_1 : decode cX8_beginWork 1 = .ok (.getfield 10, 3) := by decide +kernel
theorem dX8_beginWork_4 : decode cX8_beginWork 4 = .ok (.iload_n 1, 1) := by decide +kernel
theorem dX8_beginWork_5 : decode cX8_beginWork 5 = .ok (.iload_n 2, 1) := by decide +kernel
theorem dX8_beginWork_6 : decode cX8_beginWork 6 = .ok (.invokevirtual 276, 3) := by decide +kernel
theorem dX8_beginWork_9 : decode cX8_beginWork 9 = .ok (.ifCond .eq 5, 3) := by decide +kernel
theorem dX8_beginWork_12 : decode cX8_beginWork 12 = .ok (.iconst 0, 1) := by decide +kernel
theorem dX8_beginWork_13 : decode cX8_beginWork 13 = .ok (.ireturn, 1) := by decide +kernel
theorem dX8_beginWork_14 : decode cX8_beginWork 14 = .ok (.aload_n 0, 1) := by decide +kernel
theorem dX8_beginWork_15 : decode cX8_beginWork 15 = .ok (.getfield 10, 3) := by decide +kernel
theorem dX8_beginWork_18 : decode cX8_beginWork 18 = .ok (.iload_n 1, 1) := by decide +kernel
theorem dX8_beginWork_19 : decode cX8_beginWork 19 = .ok (.iload_n 2, 1) := by decide +kernel
theorem dX8_beginWork_20 : decode cX8_beginWork 20 = .ok (.iload_n 3, 1) := by decide +kernel
theorem dX8_beginWork_21 : decode cX8_beginWork 21 = .ok (.invokevirtual 279, 3) := by decide +kernel
theorem dX8_beginWork_24 : decode cX8_beginWork 24 = .ok (.ifCond .eq 5, 3) := by decide +kernel
theorem dX8_beginWork_27 : decode cX8_beginWork 27 = .ok (.iconst 1, 1) := by decide +kernel
theorem dX8_beginWork_28 : decode cX8_beginWork 28 = .ok (.ireturn, 1) := by decide +kernel
theorem dX8_beginWork_29 : decode cX8_beginWork 29 = .ok (.aload_n 0, 1) := by decide +kernel
theorem dX8_beginWork_30 : decode cX8_beginWork 30 = .ok (.getfield 65, 3) := by decide +kernel
theorem dX8_beginWork_33 : decode cX8_beginWork 33 = .ok (.iload_n 1, 1) := by decide +kernel
theorem dX8_beginWork_34 : decode cX8_beginWork 34 = .ok (.invokestatic 282, 3) := by decide +kernel
theorem dX8_beginWork_37 : decode cX8_beginWork 37 = .ok (.invokevirtual 285, 3) := by decide +kernel
theorem dX8_beginWork_40 : decode cX8_beginWork 40 = .ok (.istore 4, 2) := by decide +kernel
theorem dX8_beginWork_42 : decode cX8_beginWork 42 = .ok (.iload 4, 2) := by decide +kernel
theorem dX8_beginWork_44 : decode cX8_beginWork 44 = .ok (.iconst (-1), 1) := by decide +kernel
theorem dX8_beginWork_45 : decode cX8_beginWork 45 = .ok (.if_icmp .ne 5, 3) := by decide +kernel
theorem dX8_beginWork_48 : decode cX8_beginWork 48 = .ok (.iconst 0, 1) := by decide +kernel
theorem dX8_beginWork_49 : decode cX8_beginWork 49 = .ok (.ireturn, 1) := by decide +kernel
theorem dX8_beginWork_50 : decode cX8_beginWork 50 = .ok (.aload_n 0, 1) := by decide +kernel
theorem dX8_beginWork_51 : decode cX8_beginWork 51 = .ok (.getfield 65, 3) := by decide +kernel
theorem dX8_beginWork_54 : decode cX8_beginWork 54 = .ok (.iload 4, 2) := by decide +kernel
theorem dX8_beginWork_56 : decode cX8_beginWork 56 = .ok (.iload_n 1, 1) := by decide +kernel
theorem dX8_beginWork_57 : decode cX8_beginWork 57 = .ok (.iload_n 2, 1) := by decide +kernel
theorem dX8_beginWork_58 : decode cX8_beginWork 58 = .ok (.iload_n 3, 1) := by decide +kernel
theorem dX8_beginWork_59 : decode cX8_beginWork 59 = .ok (.aload_n 0, 1) := by decide +kernel
theorem dX8_beginWork_60 : decode cX8_beginWork 60 = .ok (.getfield 94, 3) := by decide +kernel
theorem dX8_beginWork_63 : decode cX8_beginWork 63 = .ok (.aload_n 0, 1) := by decide +kernel
theorem dX8_beginWork_64 : decode cX8_beginWork 64 = .ok (.getfield 10, 3) := by decide +kernel
theorem dX8_beginWork_67 : decode cX8_beginWork 67 = .ok (.iload_n 1, 1) := by decide +kernel
theorem dX8_beginWork_68 : decode cX8_beginWork 68 = .ok (.iload_n 2, 1) := by decide +kernel
theorem dX8_beginWork_69 : decode cX8_beginWork 69 = .ok (.iload_n 3, 1) := by decide +kernel
theorem dX8_beginWork_70 : decode cX8_beginWork 70 = .ok (.invokevirtual 288, 3) := by decide +kernel
theorem dX8_beginWork_73 : decode cX8_beginWork 73 = .ok (.iadd, 1) := by decide +kernel
theorem dX8_beginWork_74 : decode cX8_beginWork 74 = .ok (.invokevirtual 292, 3) := by decide +kernel
theorem dX8_beginWork_77 : decode cX8_beginWork 77 = .ok (.aload_n 0, 1) := by decide +kernel
theorem dX8_beginWork_78 : decode cX8_beginWork 78 = .ok (.getfield 10, 3) := by decide +kernel
theorem dX8_beginWork_81 : decode cX8_beginWork 81 = .ok (.iload_n 1, 1) := by decide +kernel
theorem dX8_beginWork_82 : decode cX8_beginWork 82 = .ok (.iload_n 2, 1) := by decide +kernel
theorem dX8_beginWork_83 : decode cX8_beginWork 83 = .ok (.iload 4, 2) := by decide +kernel
theorem dX8_beginWork_85 : decode cX8_beginWork 85 = .ok (.invokevirtual 296, 3) := by decide +kernel
theorem dX8_beginWork_88 : decode cX8_beginWork 88 = .ok (.iconst 1, 1) := by decide +kernel
theorem dX8_beginWork_89 : decode cX8_beginWork 89 = .ok (.ireturn, 1) := by decide +kernel
theorem dX8_braced_0 : decode cX8_braced 0 = .ok (.iload_n 1, 1) := by decide +kernel
theorem dX8_braced_1 : decode cX8_braced 1 = .ok (.ifCond .lt 8, 3) := by decide +kernel
theorem dX8_braced_4 : decode cX8_braced 4 = .ok (.iload_n 1, 1) := by decide +kernel
theorem dX8_braced_5 : decode cX8_braced 5 = .ok (.iconst 3, 1) := by decide +kernel
theorem dX8_braced_6 : decode cX8_braced 6 = .ok (.if_icmp .lt 7, 3) := by decide +kernel
theorem dX8_braced_9 : decode cX8_braced 9 = .ok (.iconst (-1), 1) := by decide +kernel
theorem dX8_braced_10 : decode cX8_braced 10 = .ok (.goto 12, 3) := by decide +kernel
theorem dX8_braced_13 : decode cX8_braced 13 = .ok (.aload_n 0, 1) := by decide +kernel
theorem dX8_braced_14 : decode cX8_braced 14 = .ok (.getfield 10, 3) := by decide +kernel
theorem dX8_braced_17 : decode cX8_braced 17 = .ok (.getfield 112, 3) := by decide +kernel
theorem dX8_braced_20 : decode cX8_braced 20 = .ok (.iload_n 1, 1) := by decide +kernel
theorem dX8_braced_21 : decode cX8_braced 21 = .ok (.iaload, 1) := by decide +kernel
theorem dX8_braced_22 : decode cX8_braced 22 = .ok (.ireturn, 1) := by decide +kernel
theorem dX8_carryOut_0 : decode cX8_carryOut 0 = .ok (.aload_n 0, 1) := by decide +kernel
theorem dX8_carryOut_1 : decode cX8_carryOut 1 = .ok (.invokevirtual 241, 3) := by decide +kernel
theorem dX8_carryOut_4 : decode cX8_carryOut 4 = .ok (.iconst 0, 1) := by decide +kernel
theorem dX8_carryOut_5 : decode cX8_carryOut 5 = .ok (.istore_n 1, 1) := by decide +kernel
theorem dX8_carryOut_6 : decode cX8_carryOut 6 = .ok (.iload_n 1, 1) := by decide +kernel
theorem dX8_carryOut_7 : decode cX8_carryOut 7 = .ok (.bipush 60, 2) := by decide +kernel
theorem dX8_carryOut_9 : decode cX8_carryOut 9 = .ok (.if_icmp .ge 54, 3) := by decide +kernel
theorem dX8_carryOut_12 : decode cX8_carryOut 12 = .ok (.aload_n 0, 1) := by decide +kernel
theorem dX8_carryOut_13 : decode cX8_carryOut 13 = .ok (.getfield 84, 3) := by decide +kernel
theorem dX8_carryOut_16 : decode cX8_carryOut 16 = .ok (.ifCond .ne 47, 3) := by decide +kernel
theorem dX8_carryOut_19 : decode cX8_carryOut 19 = .ok (.aload_n 0, 1) := by decide +kernel
theorem dX8_carryOut_20 : decode cX8_carryOut 20 = .ok (.getfield 81, 3) := by decide +kernel
theorem dX8_carryOut_23 : decode cX8_carryOut 23 = .ok (.aload_n 0, 1) := by decide +kernel
theorem dX8_carryOut_24 : decode cX8_carryOut 24 = .ok (.getfield 53, 3) := by decide +kernel
theorem dX8_carryOut_27 : decode cX8_carryOut 27 = .ok (.getfield 165, 3) := by decide +kernel
theorem dX8_carryOut_30 : decode cX8_carryOut 30 = .ok (.if_icmp .ge 33, 3) := by decide +kernel
theorem dX8_carryOut_33 : decode cX8_carryOut 33 = .ok (.aload_n 0, 1) := by decide +kernel
theorem dX8_carryOut_34 : decode cX8_carryOut 34 = .ok (.aload_n 0, 1) := by decide +kernel
theorem dX8_carryOut_35 : decode cX8_carryOut 35 = .ok (.getfield 81, 3) := by decide +kernel
theorem dX8_carryOut_38 : decode cX8_carryOut 38 = .ok (.invokevirtual 244, 3) := by decide +kernel
theorem dX8_carryOut_41 : decode cX8_carryOut 41 = .ok (.ifCond .ne 6, 3) := by decide +kernel
theorem dX8_carryOut_44 : decode cX8_carryOut 44 = .ok (.goto 19, 3) := by decide +kernel
theorem dX8_carryOut_47 : decode cX8_carryOut 47 = .ok (.aload_n 0, 1) := by decide +kernel
theorem dX8_carryOut_48 : decode cX8_carryOut 48 = .ok (.dup, 1) := by decide +kernel
theorem dX8_carryOut_49 : decode cX8_carryOut 49 = .ok (.getfield 162, 3) := by decide +kernel
theorem dX8_carryOut_52 : decode cX8_carryOut 52 = .ok (.iconst 1, 1) := by decide +kernel
theorem dX8_carryOut_53 : decode cX8_carryOut 53 = .ok (.iadd, 1) := by decide +kernel
theorem dX8_carryOut_54 : decode cX8_carryOut 54 = .ok (.putfield 162, 3) := by decide +kernel
theorem dX8_carryOut_57 : decode cX8_carryOut 57 = .ok (.iinc 1 1, 3) := by decide +kernel
theorem dX8_carryOut_60 : decode cX8_carryOut 60 = .ok (.goto (-54), 3) := by decide +kernel
theorem dX8_carryOut_63 : decode cX8_carryOut 63 = .ok (.aload_n 0, 1) := by decide +kernel
theorem dX8_carryOut_64 : decode cX8_carryOut 64 = .ok (.getfield 84, 3) := by decide +kernel
theorem dX8_carryOut_67 : decode cX8_carryOut 67 = .ok (.ifCond .le 13, 3) := by decide +kernel
theorem dX8_carryOut_70 : decode cX8_carryOut 70 = .ok (.aload_n 0, 1) := by decide +kernel
theorem dX8_carryOut_71 : decode cX8_carryOut 71 = .ok (.dup, 1) := by decide +kernel
theorem dX8_carryOut_72 : decode cX8_carryOut 72 = .ok (.getfield 84, 3) := by decide +kernel
theorem dX8_carryOut_75 : decode cX8_carryOut 75 = .ok (.iconst 1, 1) := by decide +kernel
theorem dX8_carryOut_76 : decode cX8_carryOut 76 = .ok (.isub, 1) := by decide +kernel
theorem dX8_carryOut_77 : decode cX8_carryOut 77 = .ok (.putfield 84, 3) := by decide +kernel
theorem dX8_carryOut_80 : decode cX8_carryOut 80 = .ok (.return_, 1) := by decide +kernel
theorem dX8_carryOutOne_0 : decode cX8_carryOutOne 0 = .ok (.aload_n 0, 1) := by decide +kernel
theorem dX8_carryOutOne_1 : decode cX8_carryOutOne 1 = .ok (.getfield 53, 3) := by decide +kernel
theorem dX8_carryOutOne_4 : decode cX8_carryOutOne 4 = .ok (.getfield 251, 3) := by decide +kernel
theorem dX8_carryOutOne_7 : decode cX8_carryOutOne 7 = .ok (.iload_n 1, 1) := by decide +kernel
theorem dX8_carryOutOne_8 : decode cX8_carryOutOne 8 = .ok (.iaload, 1) := by decide +kernel
theorem dX8_carryOutOne_9 : decode cX8_carryOutOne 9 = .ok (.istore_n 2, 1) := by decide +kernel
theorem dX8_carryOutOne_10 : decode cX8_carryOutOne 10 = .ok (.aload_n 0, 1) := by decide +kernel
theorem dX8_carryOutOne_11 : decode cX8_carryOutOne 11 = .ok (.getfield 53, 3) := by decide +kernel
theorem dX8_carryOutOne_14 : decode cX8_carryOutOne 14 = .ok (.getfield 254, 3) := by decide +kernel
theorem dX8_carryOutOne_17 : decode cX8_carryOutOne 17 = .ok (.iload_n 1, 1) := by decide +kernel
theorem dX8_carryOutOne_18 : decode cX8_carryOutOne 18 = .ok (.iaload, 1) := by decide +kernel
theorem dX8_carryOutOne_19 : decode cX8_carryOutOne 19 = .ok (.tableswitch 100 4 8 #[33, 41, 52, 60, 60], 33) := by decide +kernel
theorem dX8_carryOutOne_52 : decode cX8_carryOutOne 52 = .ok (.aload_n 0, 1) := by decide +kernel
theorem dX8_carryOutOne_53 : decode cX8_carryOutOne 53 = .ok (.iload_n 2, 1) := by decide +kernel
theorem dX8_carryOutOne_54 : decode cX8_carryOutOne 54 = .ok (.putfield 141, 3) := by decide +kernel
theorem dX8_carryOutOne_57 : decode cX8_carryOutOne 57 = .ok (.goto 90, 3) := by decide +kernel
theorem dX8_carryOutOne_60 : decode cX8_carryOutOne 60 = .ok (.aload_n 0, 1) := by decide +kernel
theorem dX8_carryOutOne_61 : decode cX8_carryOutOne 61 = .ok (.getfield 65, 3) := by decide +kernel
theorem dX8_carryOutOne_64 : decode cX8_carryOutOne 64 = .ok (.iload_n 2, 1) := by decide +kernel
theorem dX8_carryOutOne_65 : decode cX8_carryOutOne 65 = .ok (.putfield 153, 3) := by decide +kernel
theorem dX8_carryOutOne_68 : decode cX8_carryOutOne 68 = .ok (.goto 79, 3) := by decide +kernel
theorem dX8_carryOutOne_71 : decode cX8_carryOutOne 71 = .ok (.aload_n 0, 1) := by decide +kernel
theorem dX8_carryOutOne_72 : decode cX8_carryOutOne 72 = .ok (.iload_n 2, 1) := by decide +kernel
theorem dX8_carryOutOne_73 : decode cX8_carryOutOne 73 = .ok (.putfield 84, 3) := by decide +kernel
theorem dX8_carryOutOne_76 : decode cX8_carryOutOne 76 = .ok (.goto 71, 3) := by decide +kernel
theorem dX8_carryOutOne_79 : decode cX8_carryOutOne 79 = .ok (.aload_n 0, 1) := by decide +kernel
theorem dX8_carryOutOne_80 : decode cX8_carryOutOne 80 = .ok (.aload_n 0, 1) := by decide +kernel
theorem dX8_carryOutOne_81 : decode cX8_carryOutOne 81 = .ok (.getfield 53, 3) := by decide +kernel
theorem dX8_carryOutOne_84 : decode cX8_carryOutOne 84 = .ok (.iload_n 1, 1) := by decide +kernel
theorem dX8_carryOutOne_85 : decode cX8_carryOutOne 85 = .ok (.aload_n 0, 1) := by decide +kernel
theorem dX8_carryOutOne_86 : decode cX8_carryOutOne 86 = .ok (.getfield 48, 3) := by decide +kernel
theorem dX8_carryOutOne_89 : decode cX8_carryOutOne 89 = .ok (.invokevirtual 257, 3) := by decide +kernel
theorem dX8_carryOutOne_92 : decode cX8_carryOutOne 92 = .ok (.ifCond .eq 14, 3) := by decide +kernel
theorem dX8_carryOutOne_95 : decode cX8_carryOutOne 95 = .ok (.aload_n 0, 1) := by decide +kernel
theorem dX8_carryOutOne_96 : decode cX8_carryOutOne 96 = .ok (.getfield 53, 3) := by decide +kernel
theorem dX8_carryOutOne_99 : decode cX8_carryOutOne 99 = .ok (.iload_n 1, 1) := by decide +kernel
theorem dX8_carryOutOne_100 : decode cX8_carryOutOne 100 = .ok (.invokevirtual 261, 3) := by decide +kernel
theorem dX8_carryOutOne_103 : decode cX8_carryOutOne 103 = .ok (.goto 11, 3) := by decide +kernel
theorem dX8_carryOutOne_106 : decode cX8_carryOutOne 106 = .ok (.aload_n 0, 1) := by decide +kernel
theorem dX8_carryOutOne_107 : decode cX8_carryOutOne 107 = .ok (.getfield 53, 3) := by decide +kernel
theorem dX8_carryOutOne_110 : decode cX8_carryOutOne 110 = .ok (.iload_n 1, 1) := by decide +kernel
theorem dX8_carryOutOne_111 : decode cX8_carryOutOne 111 = .ok (.invokevirtual 264, 3) := by decide +kernel
theorem dX8_carryOutOne_114 : decode cX8_carryOutOne 114 = .ok (.putfield 81, 3) := by decide +kernel
theorem dX8_carryOutOne_117 : decode cX8_carryOutOne 117 = .ok (.iconst 1, 1) := by decide +kernel
theorem dX8_carryOutOne_118 : decode cX8_carryOutOne 118 = .ok (.ireturn, 1) := by decide +kernel
theorem dX8_carryOutOne_119 : decode cX8_carryOutOne 119 = .ok (.aload_n 0, 1) := by decide +kernel
theorem dX8_carryOutOne_120 : decode cX8_carryOutOne 120 = .ok (.aload_n 0, 1) := by decide +kernel
theorem dX8_carryOutOne_121 : decode cX8_carryOutOne 121 = .ok (.getfield 53, 3) := by decide +kernel
theorem dX8_carryOutOne_124 : decode cX8_carryOutOne 124 = .ok (.getfield 254, 3) := by decide +kernel
theorem dX8_carryOutOne_127 : decode cX8_carryOutOne 127 = .ok (.iload_n 1, 1) := by decide +kernel
theorem dX8_carryOutOne_128 : decode cX8_carryOutOne 128 = .ok (.iaload, 1) := by decide +kernel
theorem dX8_carryOutOne_129 : decode cX8_carryOutOne 129 = .ok (.iload_n 2, 1) := by decide +kernel
theorem dX8_carryOutOne_130 : decode cX8_carryOutOne 130 = .ok (.aload_n 0, 1) := by decide +kernel
theorem dX8_carryOutOne_131 : decode cX8_carryOutOne 131 = .ok (.getfield 53, 3) := by decide +kernel
theorem dX8_carryOutOne_134 : decode cX8_carryOutOne 134 = .ok (.getfield 267, 3) := by decide +kernel
theorem dX8_carryOutOne_137 : decode cX8_carryOutOne 137 = .ok (.iload_n 1, 1) := by decide +kernel
theorem dX8_carryOutOne_138 : decode cX8_carryOutOne 138 = .ok (.iaload, 1) := by decide +kernel
theorem dX8_carryOutOne_139 : decode cX8_carryOutOne 139 = .ok (.invokevirtual 270, 3) := by decide +kernel
theorem dX8_carryOutOne_142 : decode cX8_carryOutOne 142 = .ok (.ifCond .ne 5, 3) := by decide +kernel
theorem dX8_carryOutOne_145 : decode cX8_carryOutOne 145 = .ok (.iconst 0, 1) := by decide +kernel
theorem dX8_carryOutOne_146 : decode cX8_carryOutOne 146 = .ok (.ireturn, 1) := by decide +kernel
theorem dX8_carryOutOne_147 : decode cX8_carryOutOne 147 = .ok (.aload_n 0, 1) := by decide +kernel
theorem dX8_carryOutOne_148 : decode cX8_carryOutOne 148 = .ok (.aload_n 0, 1) := by decide +kernel
theorem dX8_carryOutOne_149 : decode cX8_carryOutOne 149 = .ok (.getfield 53, 3) := by decide +kernel
theorem dX8_carryOutOne_152 : decode cX8_carryOutOne 152 = .ok (.getfield 273, 3) := by decide +kernel
theorem dX8_carryOutOne_155 : decode cX8_carryOutOne 155 = .ok (.iload_n 1, 1) := by decide +kernel
theorem dX8_carryOutOne_156 : decode cX8_carryOutOne 156 = .ok (.iaload, 1) := by decide +kernel
theorem dX8_carryOutOne_157 : decode cX8_carryOutOne 157 = .ok (.putfield 81, 3) := by decide +kernel
theorem dX8_carryOutOne_160 : decode cX8_carryOutOne 160 = .ok (.iconst 1, 1) := by decide +kernel
theorem dX8_carryOutOne_161 : decode cX8_carryOutOne 161 = .ok (.ireturn, 1) := by decide +kernel
theorem dX8_changeSpeed_0 : decode cX8_changeSpeed 0 = .ok (.bipush (-3), 2) := by decide +kernel
theorem dX8_changeSpeed_2 : decode cX8_changeSpeed 2 = .ok (.bipush 14, 2) := by decide +kernel
theorem dX8_changeSpeed_4 : decode cX8_changeSpeed 4 = .ok (.iload_n 1, 1) := by decide +kernel
theorem dX8_changeSpeed_5 : decode cX8_changeSpeed 5 = .ok (.bipush 20, 2) := by decide +kernel
theorem dX8_changeSpeed_7 : decode cX8_changeSpeed 7 = .ok (.idiv, 1) := by decide +kernel
theorem dX8_changeSpeed_8 : decode cX8_changeSpeed 8 = .ok (.invokestatic 299, 3) := by decide +kernel
theorem dX8_changeSpeed_11 : decode cX8_changeSpeed 11 = .ok (.invokestatic 304, 3) := by decide +kernel
theorem dX8_changeSpeed_14 : decode cX8_changeSpeed 14 = .ok (.istore_n 2, 1) := by decide +kernel
theorem dX8_changeSpeed_15 : decode cX8_changeSpeed 15 = .ok (.aload_n 0, 1) := by decide +kernel
theorem dX8_changeSpeed_16 : decode cX8_changeSpeed 16 = .ok (.getfield 144, 3) := by decide +kernel
theorem dX8_changeSpeed_19 : decode cX8_changeSpeed 19 = .ok (.iload_n 2, 1) := by decide +kernel
theorem dX8_changeSpeed_20 : decode cX8_changeSpeed 20 = .ok (.if_icmp .ge 16, 3) := by decide +kernel
theorem dX8_changeSpeed_23 : decode cX8_changeSpeed 23 = .ok (.aload_n 0, 1) := by decide +kernel
theorem dX8_changeSpeed_24 : decode cX8_changeSpeed 24 = .ok (.dup, 1) := by decide +kernel
theorem dX8_changeSpeed_25 : decode cX8_changeSpeed 25 = .ok (.getfield 144, 3) := by decide +kernel
theorem dX8_changeSpeed_28 : decode cX8_changeSpeed 28 = .ok (.iconst 1, 1) := by decide +kernel
theorem dX8_changeSpeed_29 : decode cX8_changeSpeed 29 = .ok (.iadd, 1) := by decide +kernel
theorem dX8_changeSpeed_30 : decode cX8_changeSpeed 30 = .ok (.putfield 144, 3) := by decide +kernel
theorem dX8_changeSpeed_33 : decode cX8_changeSpeed 33 = .ok (.goto 21, 3) := by decide +kernel
theorem dX8_changeSpeed_36 : decode cX8_changeSpeed 36 = .ok (.aload_n 0, 1) := by decide +kernel
theorem dX8_changeSpeed_37 : decode cX8_changeSpeed 37 = .ok (.getfield 144, 3) := by decide +kernel
theorem dX8_changeSpeed_40 : decode cX8_changeSpeed 40 = .ok (.iload_n 2, 1) := by decide +kernel
theorem dX8_changeSpeed_41 : decode cX8_changeSpeed 41 = .ok (.if_icmp .le 13, 3) := by decide +kernel
theorem dX8_changeSpeed_44 : decode cX8_changeSpeed 44 = .ok (.aload_n 0, 1) := by decide +kernel
theorem dX8_changeSpeed_45 : decode cX8_changeSpeed 45 = .ok (.dup, 1) := by decide +kernel
theorem dX8_changeSpeed_46 : decode cX8_changeSpeed 46 = .ok (.getfield 144, 3) := by decide +kernel
theorem dX8_changeSpeed_49 : decode cX8_changeSpeed 49 = .ok (.iconst 1, 1) := by decide +kernel
theorem dX8_changeSpeed_50 : decode cX8_changeSpeed 50 = .ok (.isub, 1) := by decide +kernel
theorem dX8_changeSpeed_51 : decode cX8_changeSpeed 51 = .ok (.putfield 144, 3) := by decide +kernel
theorem dX8_changeSpeed_54 : decode cX8_changeSpeed 54 = .ok (.return_, 1) := by decide +kernel
theorem dX8_endWorks_0 : decode cX8_endWorks 0 = .ok (.iconst 0, 1) := by decide +kernel
theorem dX8_endWorks_1 : decode cX8_endWorks 1 = .ok (.istore_n 1, 1) := by decide +kernel
theorem dX8_endWorks_2 : decode cX8_endWorks 2 = .ok (.iload_n 1, 1) := by decide +kernel
theorem dX8_endWorks_3 : decode cX8_endWorks 3 = .ok (.aload_n 0, 1) := by decide +kernel
theorem dX8_endWorks_4 : decode cX8_endWorks 4 = .ok (.getfield 65, 3) := by decide +kernel
theorem dX8_endWorks_7 : decode cX8_endWorks 7 = .ok (.getfield 115, 3) := by decide +kernel
theorem dX8_endWorks_10 : decode cX8_endWorks 10 = .ok (.if_icmp .ge 66, 3) := by decide +kernel
theorem dX8_endWorks_13 : decode cX8_endWorks 13 = .ok (.aload_n 0, 1) := by decide +kernel
theorem dX8_endWorks_14 : decode cX8_endWorks 14 = .ok (.getfield 65, 3) := by decide +kernel
theorem dX8_endWorks_17 : decode cX8_endWorks 17 = .ok (.iload_n 1, 1) := by decide +kernel
theorem dX8_endWorks_18 : decode cX8_endWorks 18 = .ok (.aload_n 0, 1) := by decide +kernel
theorem dX8_endWorks_19 : decode cX8_endWorks 19 = .ok (.getfield 94, 3) := by decide +kernel
theorem dX8_endWorks_22 : decode cX8_endWorks 22 = .ok (.invokevirtual 221, 3) := by decide +kernel
theorem dX8_endWorks_25 : decode cX8_endWorks 25 = .ok (.ifCond .eq 45, 3) := by decide +kernel
theorem dX8_endWorks_28 : decode cX8_endWorks 28 = .ok (.aload_n 0, 1) := by decide +kernel
theorem dX8_endWorks_29 : decode cX8_endWorks 29 = .ok (.getfield 10, 3) := by decide +kernel
theorem dX8_endWorks_32 : decode cX8_endWorks 32 = .ok (.aload_n 0, 1) := by decide +kernel
theorem dX8_endWorks_33 : decode cX8_endWorks 33 = .ok (.getfield 65, 3) := by decide +kernel
theorem dX8_endWorks_36 : decode cX8_endWorks 36 = .ok (.getfield 225, 3) := by decide +kernel
theorem dX8_endWorks_39 : decode cX8_endWorks 39 = .ok (.iload_n 1, 1) := by decide +kernel
theorem dX8_endWorks_40 : decode cX8_endWorks 40 = .ok (.iaload, 1) := by decide +kernel
theorem dX8_endWorks_41 : decode cX8_endWorks 41 = .ok (.aload_n 0, 1) := by decide +kernel
theorem dX8_endWorks_42 : decode cX8_endWorks 42 = .ok (.getfield 65, 3) := by decide +kernel
theorem dX8_endWorks_45 : decode cX8_endWorks 45 = .ok (.getfield 228, 3) := by decide +kernel
theorem dX8_endWorks_48 : decode cX8_endWorks 48 = .ok (.iload_n 1, 1) := by decide +kernel
theorem dX8_endWorks_49 : decode cX8_endWorks 49 = .ok (.iaload, 1) := by decide +kernel
theorem dX8_endWorks_50 : decode cX8_endWorks 50 = .ok (.aload_n 0, 1) := by decide +kernel
theorem dX8_endWorks_51 : decode cX8_endWorks 51 = .ok (.getfield 65, 3) := by decide +kernel
theorem dX8_endWorks_54 : decode cX8_endWorks 54 = .ok (.getfield 231, 3) := by decide +kernel
theorem dX8_endWorks_57 : decode cX8_endWorks 57 = .ok (.iload_n 1, 1) := by decide +kernel
theorem dX8_endWorks_58 : decode cX8_endWorks 58 = .ok (.iaload, 1) := by decide +kernel
theorem dX8_endWorks_59 : decode cX8_endWorks 59 = .ok (.invokevirtual 234, 3) := by decide +kernel
theorem dX8_endWorks_62 : decode cX8_endWorks 62 = .ok (.aload_n 0, 1) := by decide +kernel
theorem dX8_endWorks_63 : decode cX8_endWorks 63 = .ok (.getfield 65, 3) := by decide +kernel
theorem dX8_endWorks_66 : decode cX8_endWorks 66 = .ok (.iload_n 1, 1) := by decide +kernel
theorem dX8_endWorks_67 : decode cX8_endWorks 67 = .ok (.invokevirtual 238, 3) := by decide +kernel
theorem dX8_endWorks_70 : decode cX8_endWorks 70 = .ok (.iinc 1 1, 3) := by decide +kernel
theorem dX8_endWorks_73 : decode cX8_endWorks 73 = .ok (.goto (-71), 3) := by decide +kernel
theorem dX8_endWorks_76 : decode cX8_endWorks 76 = .ok (.return_, 1) := by decide +kernel
theorem dX8_feed_0 : decode cX8_feed 0 = .ok (.aload_n 0, 1) := by decide +kernel
theorem dX8_feed_1 : decode cX8_feed 1 = .ok (.getfield 26, 3) := by decide +kernel
theorem dX8_feed_4 : decode cX8_feed 4 = .ok (.lload_n 1, 1) := by decide +kernel
theorem dX8_feed_5 : decode cX8_feed 5 = .ok (.invokevirtual 69, 3) := by decide +kernel
theorem dX8_feed_8 : decode cX8_feed 8 = .ok (.aload_n 0, 1) := by decide +kernel
theorem dX8_feed_9 : decode cX8_feed 9 = .ok (.getfield 26, 3) := by decide +kernel
theorem dX8_feed_12 : decode cX8_feed 12 = .ok (.lload_n 3, 1) := by decide +kernel
theorem dX8_feed_13 : decode cX8_feed 13 = .ok (.invokevirtual 69, 3) := by decide +kernel
theorem dX8_feed_16 : decode cX8_feed 16 = .ok (.aload_n 0, 1) := by decide +kernel
theorem dX8_feed_17 : decode cX8_feed 17 = .ok (.getfield 26, 3) := by decide +kernel
theorem dX8_feed_20 : decode cX8_feed 20 = .ok (.lload 5, 2) := by decide +kernel
theorem dX8_feed_22 : decode cX8_feed 22 = .ok (.invokevirtual 69, 3) := by decide +kernel
theorem dX8_feed_25 : decode cX8_feed 25 = .ok (.aload_n 0, 1) := by decide +kernel
theorem dX8_feed_26 : decode cX8_feed 26 = .ok (.getfield 26, 3) := by decide +kernel
theorem dX8_feed_29 : decode cX8_feed 29 = .ok (.getfield 73, 3) := by decide +kernel
theorem dX8_feed_32 : decode cX8_feed 32 = .ok (.ireturn, 1) := by decide +kernel
theorem dX8_foretell_0 : decode cX8_foretell 0 = .ok (.aload_n 0, 1) := by decide +kernel
theorem dX8_foretell_1 : decode cX8_foretell 1 = .ok (.getfield 42, 3) := by decide +kernel
theorem dX8_foretell_4 : decode cX8_foretell 4 = .ok (.iload_n 1, 1) := by decide +kernel
theorem dX8_foretell_5 : decode cX8_foretell 5 = .ok (.iload_n 2, 1) := by decide +kernel
theorem dX8_foretell_6 : decode cX8_foretell 6 = .ok (.iload_n 3, 1) := by decide +kernel
theorem dX8_foretell_7 : decode cX8_foretell 7 = .ok (.invokevirtual 174, 3) := by decide +kernel
theorem dX8_foretell_10 : decode cX8_foretell 10 = .ok (.ireturn, 1) := by decide +kernel
theorem dX8_hand_0 : decode cX8_hand 0 = .ok (.iload_n 1, 1) := by decide +kernel
theorem dX8_hand_1 : decode cX8_hand 1 = .ok (.ifCond .lt 14, 3) := by decide +kernel
theorem dX8_hand_4 : decode cX8_hand 4 = .ok (.iload_n 1, 1) := by decide +kernel
theorem dX8_hand_5 : decode cX8_hand 5 = .ok (.aload_n 0, 1) := by decide +kernel
theorem dX8_hand_6 : decode cX8_hand 6 = .ok (.getfield 65, 3) := by decide +kernel
theorem dX8_hand_9 : decode cX8_hand 9 = .ok (.getfield 115, 3) := by decide +kernel
theorem dX8_hand_12 : decode cX8_hand 12 = .ok (.if_icmp .lt 13, 3) := by decide +kernel
theorem dX8_hand_15 : decode cX8_hand 15 = .ok (.new 118, 3) := by decide +kernel
theorem dX8_hand_18 : decode cX8_hand 18 = .ok (.dup, 1) := by decide +kernel
theorem dX8_hand_19 : decode cX8_hand 19 = .ok (.ldc 120, 2) := by decide +kernel
theorem dX8_hand_21 : decode cX8_hand 21 = .ok (.invokespecial 122, 3) := by decide +kernel
theorem dX8_hand_24 : decode cX8_hand 24 = .ok (.athrow, 1) := by decide +kernel
theorem dX8_hand_25 : decode cX8_hand 25 = .ok (.iload_n 2, 1) := by decide +kernel
theorem dX8_hand_26 : decode cX8_hand 26 = .ok (.tableswitch 69 0 2 #[26, 43, 52], 26) := by decide +kernel
theorem dX8_hand_52 : decode cX8_hand 52 = .ok (.aload_n 0, 1) := by decide +kernel
theorem dX8_hand_53 : decode cX8_hand 53 = .ok (.getfield 65, 3) := by decide +kernel
theorem dX8_hand_56 : decode cX8_hand 56 = .ok (.iload_n 1, 1) := by decide +kernel
theorem dX8_hand_57 : decode cX8_hand 57 = .ok (.invokevirtual 125, 3) := by decide +kernel
theorem dX8_hand_60 : decode cX8_hand 60 = .ok (.ifCond .eq 7, 3) := by decide +kernel
theorem dX8_hand_63 : decode cX8_hand 63 = .ok (.iconst 0, 1) := by decide +kernel
theorem dX8_hand_64 : decode cX8_hand 64 = .ok (.goto 4, 3) := by decide +kernel
theorem dX8_hand_67 : decode cX8_hand 67 = .ok (.iconst 1, 1) := by decide +kernel
theorem dX8_hand_68 : decode cX8_hand 68 = .ok (.ireturn, 1) := by decide +kernel
theorem dX8_hand_69 : decode cX8_hand 69 = .ok (.aload_n 0, 1) := by decide +kernel
theorem dX8_hand_70 : decode cX8_hand 70 = .ok (.getfield 65, 3) := by decide +kernel
theorem dX8_hand_73 : decode cX8_hand 73 = .ok (.iload_n 1, 1) := by decide +kernel
theorem dX8_hand_74 : decode cX8_hand 74 = .ok (.invokevirtual 129, 3) := by decide +kernel
theorem dX8_hand_77 : decode cX8_hand 77 = .ok (.ireturn, 1) := by decide +kernel
theorem dX8_hand_78 : decode cX8_hand 78 = .ok (.aload_n 0, 1) := by decide +kernel
theorem dX8_hand_79 : decode cX8_hand 79 = .ok (.getfield 65, 3) := by decide +kernel
theorem dX8_hand_82 : decode cX8_hand 82 = .ok (.iload_n 1, 1) := by decide +kernel
theorem dX8_hand_83 : decode cX8_hand 83 = .ok (.invokevirtual 133, 3) := by decide +kernel
theorem dX8_hand_86 : decode cX8_hand 86 = .ok (.ifCond .eq 7, 3) := by decide +kernel
theorem dX8_hand_89 : decode cX8_hand 89 = .ok (.iconst 1, 1) := by decide +kernel
theorem dX8_hand_90 : decode cX8_hand 90 = .ok (.goto 4, 3) := by decide +kernel
theorem dX8_hand_93 : decode cX8_hand 93 = .ok (.iconst 0, 1) := by decide +kernel
theorem dX8_hand_94 : decode cX8_hand 94 = .ok (.ireturn, 1) := by decide +kernel
theorem dX8_hand_95 : decode cX8_hand 95 = .ok (.new 118, 3) := by decide +kernel
theorem dX8_hand_98 : decode cX8_hand 98 = .ok (.dup, 1) := by decide +kernel
theorem dX8_hand_99 : decode cX8_hand 99 = .ok (.ldc 136, 2) := by decide +kernel
theorem dX8_hand_101 : decode cX8_hand 101 = .ok (.invokespecial 122, 3) := by decide +kernel
theorem dX8_hand_104 : decode cX8_hand 104 = .ok (.athrow, 1) := by decide +kernel
theorem dX8_init_0 : decode cX8_init 0 = .ok (.aload_n 0, 1) := by decide +kernel
theorem dX8_init_1 : decode cX8_init 1 = .ok (.invokespecial 1, 3) := by decide +kernel
theorem dX8_init_4 : decode cX8_init 4 = .ok (.aload_n 0, 1) := by decide +kernel
theorem dX8_init_5 : decode cX8_init 5 = .ok (.new 7, 3) := by decide +kernel
theorem dX8_init_8 : decode cX8_init 8 = .ok (.dup, 1) := by decide +kernel
theorem dX8_init_9 : decode cX8_init 9 = .ok (.invokespecial 9, 3) := by decide +kernel
theorem dX8_init_12 : decode cX8_init 12 = .ok (.putfield 10, 3) := by decide +kernel
theorem dX8_init_15 : decode cX8_init 15 = .ok (.aload_n 0, 1) := by decide +kernel
theorem dX8_init_16 : decode cX8_init 16 = .ok (.new 16, 3) := by decide +kernel
theorem dX8_init_19 : decode cX8_init 19 = .ok (.dup, 1) := by decide +kernel
theorem dX8_init_20 : decode cX8_init 20 = .ok (.invokespecial 18, 3) := by decide +kernel
theorem dX8_init_23 : decode cX8_init 23 = .ok (.putfield 19, 3) := by decide +kernel
theorem dX8_init_26 : decode cX8_init 26 = .ok (.aload_n 0, 1) := by decide +kernel
theorem dX8_init_27 : decode cX8_init 27 = .ok (.new 23, 3) := by decide +kernel
theorem dX8_init_30 : decode cX8_init 30 = .ok (.dup, 1) := by decide +kernel
theorem dX8_init_31 : decode cX8_init 31 = .ok (.invokespecial 25, 3) := by decide +kernel
theorem dX8_init_34 : decode cX8_init 34 = .ok (.putfield 26, 3) := by decide +kernel
theorem dX8_init_37 : decode cX8_init 37 = .ok (.aload_n 0, 1) := by decide +kernel
theorem dX8_init_38 : decode cX8_init 38 = .ok (.new 30, 3) := by decide +kernel
theorem dX8_init_41 : decode cX8_init 41 = .ok (.dup, 1) := by decide +kernel
theorem dX8_init_42 : decode cX8_init 42 = .ok (.aload_n 0, 1) := by decide +kernel
theorem dX8_init_43 : decode cX8_init 43 = .ok (.getfield 26, 3) := by decide +kernel
theorem dX8_init_46 : decode cX8_init 46 = .ok (.invokespecial 32, 3) := by decide +kernel
theorem dX8_init_49 : decode cX8_init 49 = .ok (.putfield 35, 3) := by decide +kernel
theorem dX8_init_52 : decode cX8_init 52 = .ok (.aload_n 0, 1) := by decide +kernel
theorem dX8_init_53 : decode cX8_init 53 = .ok (.new 39, 3) := by decide +kernel
theorem dX8_init_56 : decode cX8_init 56 = .ok (.dup, 1) := by decide +kernel
theorem dX8_init_57 : decode cX8_init 57 = .ok (.invokespecial 41, 3) := by decide +kernel
theorem dX8_init_60 : decode cX8_init 60 = .ok (.putfield 42, 3) := by decide +kernel
theorem dX8_init_63 : decode cX8_init 63 = .ok (.aload_n 0, 1) := by decide +kernel
theorem dX8_init_64 : decode cX8_init 64 = .ok (.bipush 8, 2) := by decide +kernel
theorem dX8_init_66 : decode cX8_init 66 = .ok (.newarray .int, 2) := by decide +kernel
theorem dX8_init_68 : decode cX8_init 68 = .ok (.putfield 48, 3) := by decide +kernel
theorem dX8_init_71 : decode cX8_init 71 = .ok (.aload_n 0, 1) := by decide +kernel
theorem dX8_init_72 : decode cX8_init 72 = .ok (.new 46, 3) := by decide +kernel
theorem dX8_init_75 : decode cX8_init 75 = .ok (.dup, 1) := by decide +kernel
theorem dX8_init_76 : decode cX8_init 76 = .ok (.invokespecial 52, 3) := by decide +kernel
theorem dX8_init_79 : decode cX8_init 79 = .ok (.putfield 53, 3) := by decide +kernel
theorem dX8_init_82 : decode cX8_init 82 = .ok (.aload_n 0, 1) := by decide +kernel
theorem dX8_init_83 : decode cX8_init 83 = .ok (.new 46, 3) := by decide +kernel
theorem dX8_init_86 : decode cX8_init 86 = .ok (.dup, 1) := by decide +kernel
theorem dX8_init_87 : decode cX8_init 87 = .ok (.invokespecial 52, 3) := by decide +kernel
theorem dX8_init_90 : decode cX8_init 90 = .ok (.putfield 57, 3) := by decide +kernel
theorem dX8_init_93 : decode cX8_init 93 = .ok (.aload_n 0, 1) := by decide +kernel
theorem dX8_init_94 : decode cX8_init 94 = .ok (.new 60, 3) := by decide +kernel
theorem dX8_init_97 : decode cX8_init 97 = .ok (.dup, 1) := by decide +kernel
theorem dX8_init_98 : decode cX8_init 98 = .ok (.iload_n 1, 1) := by decide +kernel
theorem dX8_init_99 : decode cX8_init 99 = .ok (.iconst 4, 1) := by decide +kernel
theorem dX8_init_100 : decode cX8_init 100 = .ok (.if_icmp .lt 9, 3) := by decide +kernel
theorem dX8_init_103 : decode cX8_init 103 = .ok (.iload_n 1, 1) := by decide +kernel
theorem dX8_init_104 : decode cX8_init 104 = .ok (.bipush 24, 2) := by decide +kernel
theorem dX8_init_106 : decode cX8_init 106 = .ok (.if_icmp .le 8, 3) := by decide +kernel
theorem dX8_init_109 : decode cX8_init 109 = .ok (.bipush 12, 2) := by decide +kernel
theorem dX8_init_111 : decode cX8_init 111 = .ok (.goto 4, 3) := by decide +kernel
theorem dX8_init_114 : decode cX8_init 114 = .ok (.iload_n 1, 1) := by decide +kernel
theorem dX8_init_115 : decode cX8_init 115 = .ok (.invokespecial 62, 3) := by decide +kernel
theorem dX8_init_118 : decode cX8_init 118 = .ok (.putfield 65, 3) := by decide +kernel
theorem dX8_init_121 : decode cX8_init 121 = .ok (.return_, 1) := by decide +kernel
theorem dX8_leg_0 : decode cX8_leg 0 = .ok (.iload_n 1, 1) := by decide +kernel
theorem dX8_leg_1 : decode cX8_leg 1 = .ok (.ifCond .lt 14, 3) := by decide +kernel
theorem dX8_leg_4 : decode cX8_leg 4 = .ok (.iload_n 1, 1) := by decide +kernel
theorem dX8_leg_5 : decode cX8_leg 5 = .ok (.aload_n 0, 1) := by decide +kernel
theorem dX8_leg_6 : decode cX8_leg 6 = .ok (.getfield 42, 3) := by decide +kernel
theorem dX8_leg_9 : decode cX8_leg 9 = .ok (.getfield 179, 3) := by decide +kernel
theorem dX8_leg_12 : decode cX8_leg 12 = .ok (.if_icmp .lt 7, 3) := by decide +kernel
theorem dX8_leg_15 : decode cX8_leg 15 = .ok (.iconst (-1), 1) := by decide +kernel
theorem dX8_leg_16 : decode cX8_leg 16 = .ok (.goto 12, 3) := by decide +kernel
theorem dX8_leg_19 : decode cX8_leg 19 = .ok (.aload_n 0, 1) := by decide +kernel
theorem dX8_leg_20 : decode cX8_leg 20 = .ok (.getfield 42, 3) := by decide +kernel
theorem dX8_leg_23 : decode cX8_leg 23 = .ok (.getfield 182, 3) := by decide +kernel
theorem dX8_leg_26 : decode cX8_leg 26 = .ok (.iload_n 1, 1) := by decide +kernel
theorem dX8_leg_27 : decode cX8_leg 27 = .ok (.iaload, 1) := by decide +kernel
theorem dX8_leg_28 : decode cX8_leg 28 = .ok (.ireturn, 1) := by decide +kernel
theorem dX8_look_0 : decode cX8_look 0 = .ok (.iload_n 1, 1) := by decide +kernel
theorem dX8_look_1 : decode cX8_look 1 = .ok (.tableswitch 193 0 14 #[75, 80, 85, 90, 95, 100, 105, 113, 121, 129, 134, 142, 169, 177, 185], 75) := by decide +kernel
theorem dX8_look_76 : decode cX8_look 76 = .ok (.aload_n 0, 1) := by decide +kernel
theorem dX8_look_77 : decode cX8_look 77 = .ok (.getfield 94, 3) := by decide +kernel
theorem dX8_look_80 : decode cX8_look 80 = .ok (.ireturn, 1) := by decide +kernel
theorem dX8_look_81 : decode cX8_look 81 = .ok (.aload_n 0, 1) := by decide +kernel
theorem dX8_look_82 : decode cX8_look 82 = .ok (.getfield 138, 3) := by decide +kernel
theorem dX8_look_85 : decode cX8_look 85 = .ok (.ireturn, 1) := by decide +kernel
theorem dX8_look_86 : decode cX8_look 86 = .ok (.aload_n 0, 1) := by decide +kernel
theorem dX8_look_87 : decode cX8_look 87 = .ok (.getfield 141, 3) := by decide +kernel
theorem dX8_look_90 : decode cX8_look 90 = .ok (.ireturn, 1) := by decide +kernel
theorem dX8_look_91 : decode cX8_look 91 = .ok (.aload_n 0, 1) := by decide +kernel
theorem dX8_look_92 : decode cX8_look 92 = .ok (.getfield 144, 3) := by decide +kernel
theorem dX8_look_95 : decode cX8_look 95 = .ok (.ireturn, 1) := by decide +kernel
theorem dX8_look_96 : decode cX8_look 96 = .ok (.aload_n 0, 1) := by decide +kernel
theorem dX8_look_97 : decode cX8_look 97 = .ok (.getfield 147, 3) := by decide +kernel
theorem dX8_look_100 : decode cX8_look 100 = .ok (.ireturn, 1) := by decide +kernel
theorem dX8_look_101 : decode cX8_look 101 = .ok (.aload_n 0, 1) := by decide +kernel
theorem dX8_look_102 : decode cX8_look 102 = .ok (.getfield 150, 3) := by decide +kernel
theorem dX8_look_105 : decode cX8_look 105 = .ok (.ireturn, 1) := by decide +kernel
theorem dX8_look_106 : decode cX8_look 106 = .ok (.aload_n 0, 1) := by decide +kernel
theorem dX8_look_107 : decode cX8_look 107 = .ok (.getfield 65, 3) := by decide +kernel
theorem dX8_look_110 : decode cX8_look 110 = .ok (.getfield 153, 3) := by decide +kernel
theorem dX8_look_113 : decode cX8_look 113 = .ok (.ireturn, 1) := by decide +kernel
theorem dX8_look_114 : decode cX8_look 114 = .ok (.aload_n 0, 1) := by decide +kernel
theorem dX8_look_115 : decode cX8_look 115 = .ok (.getfield 65, 3) := by decide +kernel
theorem dX8_look_118 : decode cX8_look 118 = .ok (.getfield 156, 3) := by decide +kernel
theorem dX8_look_121 : decode cX8_look 121 = .ok (.ireturn, 1) := by decide +kernel
theorem dX8_look_122 : decode cX8_look 122 = .ok (.aload_n 0, 1) := by decide +kernel
theorem dX8_look_123 : decode cX8_look 123 = .ok (.getfield 10, 3) := by decide +kernel
theorem dX8_look_126 : decode cX8_look 126 = .ok (.getfield 159, 3) := by decide +kernel
theorem dX8_look_129 : decode cX8_look 129 = .ok (.ireturn, 1) := by decide +kernel
theorem dX8_look_130 : decode cX8_look 130 = .ok (.aload_n 0, 1) := by decide +kernel
theorem dX8_look_131 : decode cX8_look 131 = .ok (.getfield 162, 3) := by decide +kernel
theorem dX8_look_134 : decode cX8_look 134 = .ok (.ireturn, 1) := by decide +kernel
theorem dX8_look_135 : decode cX8_look 135 = .ok (.aload_n 0, 1) := by decide +kernel
theorem dX8_look_136 : decode cX8_look 136 = .ok (.getfield 53, 3) := by decide +kernel
theorem dX8_look_139 : decode cX8_look 139 = .ok (.getfield 165, 3) := by decide +kernel
theorem dX8_look_142 : decode cX8_look 142 = .ok (.ireturn, 1) := by decide +kernel
theorem dX8_look_143 : decode cX8_look 143 = .ok (.aload_n 0, 1) := by decide +kernel
theorem dX8_look_144 : decode cX8_look 144 = .ok (.getfield 81, 3) := by decide +kernel
theorem dX8_look_147 : decode cX8_look 147 = .ok (.aload_n 0, 1) := by decide +kernel
theorem dX8_look_148 : decode cX8_look 148 = .ok (.getfield 53, 3) := by decide +kernel
theorem dX8_look_151 : decode cX8_look 151 = .ok (.getfield 165, 3) := by decide +kernel
theorem dX8_look_154 : decode cX8_look 154 = .ok (.if_icmp .lt 14, 3) := by decide +kernel
theorem dX8_look_157 : decode cX8_look 157 = .ok (.aload_n 0, 1) := by decide +kernel
theorem dX8_look_158 : decode cX8_look 158 = .ok (.getfield 84, 3) := by decide +kernel
theorem dX8_look_161 : decode cX8_look 161 = .ok (.ifCond .ne 7, 3) := by decide +kernel
theorem dX8_look_164 : decode cX8_look 164 = .ok (.iconst 1, 1) := by decide +kernel
theorem dX8_look_165 : decode cX8_look 165 = .ok (.goto 4, 3) := by decide +kernel
theorem dX8_look_168 : decode cX8_look 168 = .ok (.iconst 0, 1) := by decide +kernel
theorem dX8_look_169 : decode cX8_look 169 = .ok (.ireturn, 1) := by decide +kernel
theorem dX8_look_170 : decode cX8_look 170 = .ok (.aload_n 0, 1) := by decide +kernel
theorem dX8_look_171 : decode cX8_look 171 = .ok (.getfield 26, 3) := by decide +kernel
theorem dX8_look_174 : decode cX8_look 174 = .ok (.getfield 73, 3) := by decide +kernel
theorem dX8_look_177 : decode cX8_look 177 = .ok (.ireturn, 1) := by decide +kernel
theorem dX8_look_178 : decode cX8_look 178 = .ok (.aload_n 0, 1) := by decide +kernel
theorem dX8_look_179 : decode cX8_look 179 = .ok (.getfield 19, 3) := by decide +kernel
theorem dX8_look_182 : decode cX8_look 182 = .ok (.getfield 168, 3) := by decide +kernel
theorem dX8_look_185 : decode cX8_look 185 = .ok (.ireturn, 1) := by decide +kernel
theorem dX8_look_186 : decode cX8_look 186 = .ok (.aload_n 0, 1) := by decide +kernel
theorem dX8_look_187 : decode cX8_look 187 = .ok (.getfield 19, 3) := by decide +kernel
theorem dX8_look_190 : decode cX8_look 190 = .ok (.getfield 171, 3) := by decide +kernel
theorem dX8_look_193 : decode cX8_look 193 = .ok (.ireturn, 1) := by decide +kernel
theorem dX8_look_194 : decode cX8_look 194 = .ok (.iconst (-1), 1) := by decide +kernel
theorem dX8_look_195 : decode cX8_look 195 = .ok (.ireturn, 1) := by decide +kernel
theorem dX8_minutes_0 : decode cX8_minutes 0 = .ok (.iload_n 1, 1) := by decide +kernel
theorem dX8_minutes_1 : decode cX8_minutes 1 = .ok (.ifCond .lt 9, 3) := by decide +kernel
theorem dX8_minutes_4 : decode cX8_minutes 4 = .ok (.iload_n 1, 1) := by decide +kernel
theorem dX8_minutes_5 : decode cX8_minutes 5 = .ok (.bipush 120, 2) := by decide +kernel
theorem dX8_minutes_7 : decode cX8_minutes 7 = .ok (.if_icmp .le 5, 3) := by decide +kernel
theorem dX8_minutes_10 : decode cX8_minutes 10 = .ok (.iconst (-1), 1) := by decide +kernel
theorem dX8_minutes_11 : decode cX8_minutes 11 = .ok (.ireturn, 1) := by decide +kernel
theorem dX8_minutes_12 : decode cX8_minutes 12 = .ok (.iconst 0, 1) := by decide +kernel
theorem dX8_minutes_13 : decode cX8_minutes 13 = .ok (.istore_n 2, 1) := by decide +kernel
theorem dX8_minutes_14 : decode cX8_minutes 14 = .ok (.iload_n 2, 1) := by decide +kernel
theorem dX8_minutes_15 : decode cX8_minutes 15 = .ok (.iload_n 1, 1) := by decide +kernel
theorem dX8_minutes_16 : decode cX8_minutes 16 = .ok (.if_icmp .ge 13, 3) := by decide +kernel
theorem dX8_minutes_19 : decode cX8_minutes 19 = .ok (.aload_n 0, 1) := by decide +kernel
theorem dX8_minutes_20 : decode cX8_minutes 20 = .ok (.invokevirtual 91, 3) := by decide +kernel
theorem dX8_minutes_23 : decode cX8_minutes 23 = .ok (.iinc 2 1, 3) := by decide +kernel
theorem dX8_minutes_26 : decode cX8_minutes 26 = .ok (.goto (-12), 3) := by decide +kernel
theorem dX8_minutes_29 : decode cX8_minutes 29 = .ok (.aload_n 0, 1) := by decide +kernel
theorem dX8_minutes_30 : decode cX8_minutes 30 = .ok (.getfield 94, 3) := by decide +kernel
theorem dX8_minutes_33 : decode cX8_minutes 33 = .ok (.ireturn, 1) := by decide +kernel
theorem dX8_orders_0 : decode cX8_orders 0 = .ok (.aload_n 0, 1) := by decide +kernel
theorem dX8_orders_1 : decode cX8_orders 1 = .ok (.getfield 35, 3) := by decide +kernel
theorem dX8_orders_4 : decode cX8_orders 4 = .ok (.aload_n 0, 1) := by decide +kernel
theorem dX8_orders_5 : decode cX8_orders 5 = .ok (.getfield 57, 3) := by decide +kernel
theorem dX8_orders_8 : decode cX8_orders 8 = .ok (.invokevirtual 77, 3) := by decide +kernel
theorem dX8_orders_11 : decode cX8_orders 11 = .ok (.istore_n 1, 1) := by decide +kernel
theorem dX8_orders_12 : decode cX8_orders 12 = .ok (.aload_n 0, 1) := by decide +kernel
theorem dX8_orders_13 : decode cX8_orders 13 = .ok (.getfield 26, 3) := by decide +kernel
theorem dX8_orders_16 : decode cX8_orders 16 = .ok (.iconst 0, 1) := by decide +kernel
theorem dX8_orders_17 : decode cX8_orders 17 = .ok (.putfield 73, 3) := by decide +kernel
theorem dX8_orders_20 : decode cX8_orders 20 = .ok (.iload_n 1, 1) := by decide +kernel
theorem dX8_orders_21 : decode cX8_orders 21 = .ok (.ifCond .eq 5, 3) := by decide +kernel
theorem dX8_orders_24 : decode cX8_orders 24 = .ok (.iload_n 1, 1) := by decide +kernel
theorem dX8_orders_25 : decode cX8_orders 25 = .ok (.ireturn, 1) := by decide +kernel
theorem dX8_orders_26 : decode cX8_orders 26 = .ok (.aload_n 0, 1) := by decide +kernel
theorem dX8_orders_27 : decode cX8_orders 27 = .ok (.getfield 53, 3) := by decide +kernel
theorem dX8_orders_30 : decode cX8_orders 30 = .ok (.astore_n 2, 1) := by decide +kernel
theorem dX8_orders_31 : decode cX8_orders 31 = .ok (.aload_n 0, 1) := by decide +kernel
theorem dX8_orders_32 : decode cX8_orders 32 = .ok (.aload_n 0, 1) := by decide +kernel
theorem dX8_orders_33 : decode cX8_orders 33 = .ok (.getfield 57, 3) := by decide +kernel
theorem dX8_orders_36 : decode cX8_orders 36 = .ok (.putfield 53, 3) := by decide +kernel
theorem dX8_orders_39 : decode cX8_orders 39 = .ok (.aload_n 0, 1) := by decide +kernel
theorem dX8_orders_40 : decode cX8_orders 40 = .ok (.aload_n 2, 1) := by decide +kernel
theorem dX8_orders_41 : decode cX8_orders 41 = .ok (.putfield 57, 3) := by decide +kernel
theorem dX8_orders_44 : decode cX8_orders 44 = .ok (.aload_n 0, 1) := by decide +kernel
theorem dX8_orders_45 : decode cX8_orders 45 = .ok (.iconst 0, 1) := by decide +kernel
theorem dX8_orders_46 : decode cX8_orders 46 = .ok (.putfield 81, 3) := by decide +kernel
theorem dX8_orders_49 : decode cX8_orders 49 = .ok (.aload_n 0, 1) := by decide +kernel
theorem dX8_orders_50 : decode cX8_orders 50 = .ok (.iconst 0, 1) := by decide +kernel
theorem dX8_orders_51 : decode cX8_orders 51 = .ok (.putfield 84, 3) := by decide +kernel
theorem dX8_orders_54 : decode cX8_orders 54 = .ok (.iconst 0, 1) := by decide +kernel
theorem dX8_orders_55 : decode cX8_orders 55 = .ok (.ireturn, 1) := by decide +kernel
theorem dX8_passMinute_0 : decode cX8_passMinute 0 = .ok (.aload_n 0, 1) := by decide +kernel
theorem dX8_passMinute_1 : decode cX8_passMinute 1 = .ok (.dup, 1) := by decide +kernel
theorem dX8_passMinute_2 : decode cX8_passMinute 2 = .ok (.getfield 94, 3) := by decide +kernel
theorem dX8_passMinute_5 : decode cX8_passMinute 5 = .ok (.iconst 1, 1) := by decide +kernel
theorem dX8_passMinute_6 : decode cX8_passMinute 6 = .ok (.iadd, 1) := by decide +kernel
theorem dX8_passMinute_7 : decode cX8_passMinute 7 = .ok (.putfield 94, 3) := by decide +kernel
theorem dX8_passMinute_10 : decode cX8_passMinute 10 = .ok (.aload_n 0, 1) := by decide +kernel
theorem dX8_passMinute_11 : decode cX8_passMinute 11 = .ok (.getfield 19, 3) := by decide +kernel
theorem dX8_passMinute_14 : decode cX8_passMinute 14 = .ok (.aload_n 0, 1) := by decide +kernel
theorem dX8_passMinute_15 : decode cX8_passMinute 15 = .ok (.getfield 94, 3) := by decide +kernel
theorem dX8_passMinute_18 : decode cX8_passMinute 18 = .ok (.invokevirtual 185, 3) := by decide +kernel
theorem dX8_passMinute_21 : decode cX8_passMinute 21 = .ok (.aload_n 0, 1) := by decide +kernel
theorem dX8_passMinute_22 : decode cX8_passMinute 22 = .ok (.invokevirtual 188, 3) := by decide +kernel
theorem dX8_passMinute_25 : decode cX8_passMinute 25 = .ok (.aload_n 0, 1) := by decide +kernel
theorem dX8_passMinute_26 : decode cX8_passMinute 26 = .ok (.invokevirtual 191, 3) := by decide +kernel
theorem dX8_passMinute_29 : decode cX8_passMinute 29 = .ok (.aload_n 0, 1) := by decide +kernel
theorem dX8_passMinute_30 : decode cX8_passMinute 30 = .ok (.aload_n 0, 1) := by decide +kernel
theorem dX8_passMinute_31 : decode cX8_passMinute 31 = .ok (.getfield 138, 3) := by decide +kernel
theorem dX8_passMinute_34 : decode cX8_passMinute 34 = .ok (.aload_n 0, 1) := by decide +kernel
theorem dX8_passMinute_35 : decode cX8_passMinute 35 = .ok (.getfield 141, 3) := by decide +kernel
theorem dX8_passMinute_38 : decode cX8_passMinute 38 = .ok (.invokestatic 194, 3) := by decide +kernel
theorem dX8_passMinute_41 : decode cX8_passMinute 41 = .ok (.putfield 138, 3) := by decide +kernel
theorem dX8_passMinute_44 : decode cX8_passMinute 44 = .ok (.aload_n 0, 1) := by decide +kernel
theorem dX8_passMinute_45 : decode cX8_passMinute 45 = .ok (.getfield 19, 3) := by decide +kernel
theorem dX8_passMinute_48 : decode cX8_passMinute 48 = .ok (.getfield 168, 3) := by decide +kernel
theorem dX8_passMinute_51 : decode cX8_passMinute 51 = .ok (.aload_n 0, 1) := by decide +kernel
theorem dX8_passMinute_52 : decode cX8_passMinute 52 = .ok (.getfield 138, 3) := by decide +kernel
theorem dX8_passMinute_55 : decode cX8_passMinute 55 = .ok (.invokestatic 199, 3) := by decide +kernel
theorem dX8_passMinute_58 : decode cX8_passMinute 58 = .ok (.istore_n 1, 1) := by decide +kernel
theorem dX8_passMinute_59 : decode cX8_passMinute 59 = .ok (.aload_n 0, 1) := by decide +kernel
theorem dX8_passMinute_60 : decode cX8_passMinute 60 = .ok (.aload_n 0, 1) := by decide +kernel
theorem dX8_passMinute_61 : decode cX8_passMinute 61 = .ok (.getfield 10, 3) := by decide +kernel
theorem dX8_passMinute_64 : decode cX8_passMinute 64 = .ok (.iload_n 1, 1) := by decide +kernel
theorem dX8_passMinute_65 : decode cX8_passMinute 65 = .ok (.aload_n 0, 1) := by decide +kernel
theorem dX8_passMinute_66 : decode cX8_passMinute 66 = .ok (.getfield 19, 3) := by decide +kernel
theorem dX8_passMinute_69 : decode cX8_passMinute 69 = .ok (.getfield 171, 3) := by decide +kernel
theorem dX8_passMinute_72 : decode cX8_passMinute 72 = .ok (.invokevirtual 202, 3) := by decide +kernel
theorem dX8_passMinute_75 : decode cX8_passMinute 75 = .ok (.invokevirtual 205, 3) := by decide +kernel
theorem dX8_passMinute_78 : decode cX8_passMinute 78 = .ok (.aload_n 0, 1) := by decide +kernel
theorem dX8_passMinute_79 : decode cX8_passMinute 79 = .ok (.iload_n 1, 1) := by decide +kernel
theorem dX8_passMinute_80 : decode cX8_passMinute 80 = .ok (.invokestatic 208, 3) := by decide +kernel
theorem dX8_passMinute_83 : decode cX8_passMinute 83 = .ok (.invokevirtual 211, 3) := by decide +kernel
theorem dX8_passMinute_86 : decode cX8_passMinute 86 = .ok (.aload_n 0, 1) := by decide +kernel
theorem dX8_passMinute_87 : decode cX8_passMinute 87 = .ok (.dup, 1) := by decide +kernel
theorem dX8_passMinute_88 : decode cX8_passMinute 88 = .ok (.getfield 147, 3) := by decide +kernel
theorem dX8_passMinute_91 : decode cX8_passMinute 91 = .ok (.aload_n 0, 1) := by decide +kernel
theorem dX8_passMinute_92 : decode cX8_passMinute 92 = .ok (.getfield 144, 3) := by decide +kernel
theorem dX8_passMinute_95 : decode cX8_passMinute 95 = .ok (.aload_n 0, 1) := by decide +kernel
theorem dX8_passMinute_96 : decode cX8_passMinute 96 = .ok (.getfield 138, 3) := by decide +kernel
theorem dX8_passMinute_99 : decode cX8_passMinute 99 = .ok (.invokestatic 215, 3) := by decide +kernel
theorem dX8_passMinute_102 : decode cX8_passMinute 102 = .ok (.imul, 1) := by decide +kernel
theorem dX8_passMinute_103 : decode cX8_passMinute 103 = .ok (.iadd, 1) := by decide +kernel
theorem dX8_passMinute_104 : decode cX8_passMinute 104 = .ok (.putfield 147, 3) := by decide +kernel
theorem dX8_passMinute_107 : decode cX8_passMinute 107 = .ok (.aload_n 0, 1) := by decide +kernel
theorem dX8_passMinute_108 : decode cX8_passMinute 108 = .ok (.dup, 1) := by decide +kernel
theorem dX8_passMinute_109 : decode cX8_passMinute 109 = .ok (.getfield 150, 3) := by decide +kernel
theorem dX8_passMinute_112 : decode cX8_passMinute 112 = .ok (.aload_n 0, 1) := by decide +kernel
theorem dX8_passMinute_113 : decode cX8_passMinute 113 = .ok (.getfield 144, 3) := by decide +kernel
theorem dX8_passMinute_116 : decode cX8_passMinute 116 = .ok (.aload_n 0, 1) := by decide +kernel
theorem dX8_passMinute_117 : decode cX8_passMinute 117 = .ok (.getfield 138, 3) := by decide +kernel
theorem dX8_passMinute_120 : decode cX8_passMinute 120 = .ok (.invokestatic 218, 3) := by decide +kernel
theorem dX8_passMinute_123 : decode cX8_passMinute 123 = .ok (.imul, 1) := by decide +kernel
theorem dX8_passMinute_124 : decode cX8_passMinute 124 = .ok (.iadd, 1) := by decide +kernel
theorem dX8_passMinute_125 : decode cX8_passMinute 125 = .ok (.putfield 150, 3) := by decide +kernel
theorem dX8_passMinute_128 : decode cX8_passMinute 128 = .ok (.return_, 1) := by decide +kernel
theorem dX8_plan_0 : decode cX8_plan 0 = .ok (.aload_n 0, 1) := by decide +kernel
theorem dX8_plan_1 : decode cX8_plan 1 = .ok (.getfield 42, 3) := by decide +kernel
theorem dX8_plan_4 : decode cX8_plan 4 = .ok (.iload_n 1, 1) := by decide +kernel
theorem dX8_plan_5 : decode cX8_plan 5 = .ok (.iload_n 2, 1) := by decide +kernel
theorem dX8_plan_6 : decode cX8_plan 6 = .ok (.invokevirtual 175, 3) := by decide +kernel
theorem dX8_plan_9 : decode cX8_plan 9 = .ok (.ireturn, 1) := by decide +kernel
theorem dX8_rope_0 : decode cX8_rope 0 = .ok (.iload_n 1, 1) := by decide +kernel
theorem dX8_rope_1 : decode cX8_rope 1 = .ok (.ifCond .lt 9, 3) := by decide +kernel
theorem dX8_rope_4 : decode cX8_rope 4 = .ok (.iload_n 1, 1) := by decide +kernel
theorem dX8_rope_5 : decode cX8_rope 5 = .ok (.bipush 18, 2) := by decide +kernel
theorem dX8_rope_7 : decode cX8_rope 7 = .ok (.if_icmp .lt 5, 3) := by decide +kernel
theorem dX8_rope_10 : decode cX8_rope 10 = .ok (.iconst (-1), 1) := by decide +kernel
theorem dX8_rope_11 : decode cX8_rope 11 = .ok (.ireturn, 1) := by decide +kernel
theorem dX8_rope_12 : decode cX8_rope 12 = .ok (.iload_n 2, 1) := by decide +kernel
theorem dX8_rope_13 : decode cX8_rope 13 = .ok (.tableswitch 66 0 2 #[27, 37, 47], 27) := by decide +kernel
theorem dX8_rope_40 : decode cX8_rope 40 = .ok (.aload_n 0, 1) := by decide +kernel
theorem dX8_rope_41 : decode cX8_rope 41 = .ok (.getfield 10, 3) := by decide +kernel
theorem dX8_rope_44 : decode cX8_rope 44 = .ok (.getfield 103, 3) := by decide +kernel
theorem dX8_rope_47 : decode cX8_rope 47 = .ok (.iload_n 1, 1) := by decide +kernel
theorem dX8_rope_48 : decode cX8_rope 48 = .ok (.iaload, 1) := by decide +kernel
theorem dX8_rope_49 : decode cX8_rope 49 = .ok (.ireturn, 1) := by decide +kernel
theorem dX8_rope_50 : decode cX8_rope 50 = .ok (.aload_n 0, 1) := by decide +kernel
theorem dX8_rope_51 : decode cX8_rope 51 = .ok (.getfield 10, 3) := by decide +kernel
theorem dX8_rope_54 : decode cX8_rope 54 = .ok (.getfield 106, 3) := by decide +kernel
theorem dX8_rope_57 : decode cX8_rope 57 = .ok (.iload_n 1, 1) := by decide +kernel
theorem dX8_rope_58 : decode cX8_rope 58 = .ok (.iaload, 1) := by decide +kernel
theorem dX8_rope_59 : decode cX8_rope 59 = .ok (.ireturn, 1) := by decide +kernel
theorem dX8_rope_60 : decode cX8_rope 60 = .ok (.aload_n 0, 1) := by decide +kernel
theorem dX8_rope_61 : decode cX8_rope 61 = .ok (.getfield 10, 3) := by decide +kernel
theorem dX8_rope_64 : decode cX8_rope 64 = .ok (.getfield 109, 3) := by decide +kernel
theorem dX8_rope_67 : decode cX8_rope 67 = .ok (.iload_n 1, 1) := by decide +kernel
theorem dX8_rope_68 : decode cX8_rope 68 = .ok (.iaload, 1) := by decide +kernel
theorem dX8_rope_69 : decode cX8_rope 69 = .ok (.iconst (-1), 1) := by decide +kernel
theorem dX8_rope_70 : decode cX8_rope 70 = .ok (.if_icmp .ne 7, 3) := by decide +kernel
theorem dX8_rope_73 : decode cX8_rope 73 = .ok (.iconst 0, 1) := by decide +kernel
theorem dX8_rope_74 : decode cX8_rope 74 = .ok (.goto 4, 3) := by decide +kernel
theorem dX8_rope_77 : decode cX8_rope 77 = .ok (.iconst 1, 1) := by decide +kernel
