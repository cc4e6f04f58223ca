theorem dX9_isSign_21 : decode cX9_isSign 21 = .ok (.getfield 30, 3) := by decide +kernel
theorem dX9_isSign_24 : decode cX9_isSign 24 = .ok (.aload_n 0, 1) := by decide +kernel
theorem dX9_isSign_25 : decode cX9_isSign 25 = .ok (.getfield 164, 3) := by decide +kernel
theorem dX9_isSign_28 : decode cX9_isSign 28 = .ok (.laload, 1) := by decide +kernel
theorem dX9_isSign_29 : decode cX9_isSign 29 = .ok (.iload_n 1, 1) := by decide +kernel
theorem dX9_isSign_30 : decode cX9_isSign 30 = .ok (.i2l, 1) := by decide +kernel
theorem dX9_isSign_31 : decode cX9_isSign 31 = .ok (.lcmp, 1) := by decide +kernel
theorem dX9_isSign_32 : decode cX9_isSign 32 = .ok (.ifCond .ne 7, 3) := by decide +kernel
theorem dX9_isSign_35 : decode cX9_isSign 35 = .ok (.iconst 1, 1) := by decide +kernel
theorem dX9_isSign_36 : decode cX9_isSign 36 = .ok (.goto 4, 3) := by decide +kernel
theorem dX9_isSign_39 : decode cX9_isSign 39 = .ok (.iconst 0, 1) := by decide +kernel
theorem dX9_isSign_40 : decode cX9_isSign 40 = .ok (.ireturn, 1) := by decide +kernel
theorem dX9_isSignOf_0 : decode cX9_isSignOf 0 = .ok (.iload_n 0, 1) := by decide +kernel
theorem dX9_isSignOf_1 : decode cX9_isSignOf 1 = .ok (.bipush 123, 2) := by decide +kernel
theorem dX9_isSignOf_3 : decode cX9_isSignOf 3 = .ok (.if_icmp .eq 39, 3) := by decide +kernel
theorem dX9_isSignOf_6 : decode cX9_isSignOf 6 = .ok (.iload_n 0, 1) := by decide +kernel
theorem dX9_isSignOf_7 : decode cX9_isSignOf 7 = .ok (.bipush 125, 2) := by decide +kernel
theorem dX9_isSignOf_9 : decode cX9_isSignOf 9 = .ok (.if_icmp .eq 33, 3) := by decide +kernel
theorem dX9_isSignOf_12 : decode cX9_isSignOf 12 = .ok (.iload_n 0, 1) := by decide +kernel
theorem dX9_isSignOf_13 : decode cX9_isSignOf 13 = .ok (.bipush 59, 2) := by decide +kernel
theorem dX9_isSignOf_15 : decode cX9_isSignOf 15 = .ok (.if_icmp .eq 27, 3) := by decide +kernel
theorem dX9_isSignOf_18 : decode cX9_isSignOf 18 = .ok (.iload_n 0, 1) := by decide +kernel
theorem dX9_isSignOf_19 : decode cX9_isSignOf 19 = .ok (.bipush 61, 2) := by decide +kernel
theorem dX9_isSignOf_21 : decode cX9_isSignOf 21 = .ok (.if_icmp .eq 21, 3) := by decide +kernel
theorem dX9_isSignOf_24 : decode cX9_isSignOf 24 = .ok (.iload_n 0, 1) := by decide +kernel
theorem dX9_isSignOf_25 : decode cX9_isSignOf 25 = .ok (.bipush 60, 2) := by decide +kernel
theorem dX9_isSignOf_27 : decode cX9_isSignOf 27 = .ok (.if_icmp .eq 15, 3) := by decide +kernel
theorem dX9_isSignOf_30 : decode cX9_isSignOf 30 = .ok (.iload_n 0, 1) := by decide +kernel
theorem dX9_isSignOf_31 : decode cX9_isSignOf 31 = .ok (.bipush 43, 2) := by decide +kernel
theorem dX9_isSignOf_33 : decode cX9_isSignOf 33 = .ok (.if_icmp .eq 9, 3) := by decide +kernel
theorem dX9_isSignOf_36 : decode cX9_isSignOf 36 = .ok (.iload_n 0, 1) := by decide +kernel
theorem dX9_isSignOf_37 : decode cX9_isSignOf 37 = .ok (.bipush 45, 2) := by decide +kernel
theorem dX9_isSignOf_39 : decode cX9_isSignOf 39 = .ok (.if_icmp .ne 7, 3) := by decide +kernel
theorem dX9_isSignOf_42 : decode cX9_isSignOf 42 = .ok (.iconst 1, 1) := by decide +kernel
theorem dX9_isSignOf_43 : decode cX9_isSignOf 43 = .ok (.goto 4, 3) := by decide +kernel
theorem dX9_isSignOf_46 : decode cX9_isSignOf 46 = .ok (.iconst 0, 1) := by decide +kernel
theorem dX9_isSignOf_47 : decode cX9_isSignOf 47 = .ok (.ireturn, 1) := by decide +kernel
theorem dX9_isUnder_0 : decode cX9_isUnder 0 = .ok (.iconst 0, 1) := by decide +kernel
theorem dX9_isUnder_1 : decode cX9_isUnder 1 = .ok (.istore_n 3, 1) := by decide +kernel
theorem dX9_isUnder_2 : decode cX9_isUnder 2 = .ok (.iconst 0, 1) := by decide +kernel
theorem dX9_isUnder_3 : decode cX9_isUnder 3 = .ok (.istore 4, 2) := by decide +kernel
theorem dX9_isUnder_5 : decode cX9_isUnder 5 = .ok (.iload 4, 2) := by decide +kernel
theorem dX9_isUnder_7 : decode cX9_isUnder 7 = .ok (.bipush 24, 2) := by decide +kernel
theorem dX9_isUnder_9 : decode cX9_isUnder 9 = .ok (.if_icmp .ge 43, 3) := by decide +kernel
theorem dX9_isUnder_12 : decode cX9_isUnder 12 = .ok (.iload_n 3, 1) := by decide +kernel
theorem dX9_isUnder_13 : decode cX9_isUnder 13 = .ok (.ifCond .ne 27, 3) := by decide +kernel
theorem dX9_isUnder_16 : decode cX9_isUnder 16 = .ok (.aload_n 0, 1) := by decide +kernel
theorem dX9_isUnder_17 : decode cX9_isUnder 17 = .ok (.getfield 98, 3) := by decide +kernel
theorem dX9_isUnder_20 : decode cX9_isUnder 20 = .ok (.iload 4, 2) := by decide +kernel
theorem dX9_isUnder_22 : decode cX9_isUnder 22 = .ok (.iaload, 1) := by decide +kernel
theorem dX9_isUnder_23 : decode cX9_isUnder 23 = .ok (.iconst 1, 1) := by decide +kernel
theorem dX9_isUnder_24 : decode cX9_isUnder 24 = .ok (.iload_n 1, 1) := by decide +kernel
theorem dX9_isUnder_25 : decode cX9_isUnder 25 = .ok (.iadd, 1) := by decide +kernel
theorem dX9_isUnder_26 : decode cX9_isUnder 26 = .ok (.if_icmp .ne 18, 3) := by decide +kernel
theorem dX9_isUnder_29 : decode cX9_isUnder 29 = .ok (.aload_n 0, 1) := by decide +kernel
theorem dX9_isUnder_30 : decode cX9_isUnder 30 = .ok (.getfield 101, 3) := by decide +kernel
theorem dX9_isUnder_33 : decode cX9_isUnder 33 = .ok (.iload 4, 2) := by decide +kernel
theorem dX9_isUnder_35 : decode cX9_isUnder 35 = .ok (.iaload, 1) := by decide +kernel
theorem dX9_isUnder_36 : decode cX9_isUnder 36 = .ok (.iload_n 2, 1) := by decide +kernel
theorem dX9_isUnder_37 : decode cX9_isUnder 37 = .ok (.if_icmp .ne 7, 3) := by decide +kernel
theorem dX9_isUnder_40 : decode cX9_isUnder 40 = .ok (.iconst 1, 1) := by decide +kernel
theorem dX9_isUnder_41 : decode cX9_isUnder 41 = .ok (.goto 4, 3) := by decide +kernel
theorem dX9_isUnder_44 : decode cX9_isUnder 44 = .ok (.iconst 0, 1) := by decide +kernel
theorem dX9_isUnder_45 : decode cX9_isUnder 45 = .ok (.istore_n 3, 1) := by decide +kernel
theorem dX9_isUnder_46 : decode cX9_isUnder 46 = .ok (.iinc 4 1, 3) := by decide +kernel
theorem dX9_isUnder_49 : decode cX9_isUnder 49 = .ok (.goto (-44), 3) := by decide +kernel
theorem dX9_isUnder_52 : decode cX9_isUnder 52 = .ok (.iload_n 3, 1) := by decide +kernel
theorem dX9_isUnder_53 : decode cX9_isUnder 53 = .ok (.ireturn, 1) := by decide +kernel
theorem dX9_isWord_0 : decode cX9_isWord 0 = .ok (.aload_n 0, 1) := by decide +kernel
theorem dX9_isWord_1 : decode cX9_isWord 1 = .ok (.getfield 167, 3) := by decide +kernel
theorem dX9_isWord_4 : decode cX9_isWord 4 = .ok (.ifCond .ne 39, 3) := by decide +kernel
theorem dX9_isWord_7 : decode cX9_isWord 7 = .ok (.aload_n 0, 1) := by decide +kernel
theorem dX9_isWord_8 : decode cX9_isWord 8 = .ok (.getfield 24, 3) := by decide +kernel
theorem dX9_isWord_11 : decode cX9_isWord 11 = .ok (.aload_n 0, 1) := by decide +kernel
theorem dX9_isWord_12 : decode cX9_isWord 12 = .ok (.getfield 164, 3) := by decide +kernel
theorem dX9_isWord_15 : decode cX9_isWord 15 = .ok (.iaload, 1) := by decide +kernel
theorem dX9_isWord_16 : decode cX9_isWord 16 = .ok (.iconst 1, 1) := by decide +kernel
theorem dX9_isWord_17 : decode cX9_isWord 17 = .ok (.if_icmp .ne 26, 3) := by decide +kernel
theorem dX9_isWord_20 : decode cX9_isWord 20 = .ok (.aload_n 0, 1) := by decide +kernel
theorem dX9_isWord_21 : decode cX9_isWord 21 = .ok (.getfield 30, 3) := by decide +kernel
theorem dX9_isWord_24 : decode cX9_isWord 24 = .ok (.aload_n 0, 1) := by decide +kernel
theorem dX9_isWord_25 : decode cX9_isWord 25 = .ok (.getfield 164, 3) := by decide +kernel
theorem dX9_isWord_28 : decode cX9_isWord 28 = .ok (.laload, 1) := by decide +kernel
theorem dX9_isWord_29 : decode cX9_isWord 29 = .ok (.aload_n 0, 1) := by decide +kernel
theorem dX9_isWord_30 : decode cX9_isWord 30 = .ok (.getfield 68, 3) := by decide +kernel
theorem dX9_isWord_33 : decode cX9_isWord 33 = .ok (.iload_n 1, 1) := by decide +kernel
theorem dX9_isWord_34 : decode cX9_isWord 34 = .ok (.laload, 1) := by decide +kernel
theorem dX9_isWord_35 : decode cX9_isWord 35 = .ok (.lcmp, 1) := by decide +kernel
theorem dX9_isWord_36 : decode cX9_isWord 36 = .ok (.ifCond .ne 7, 3) := by decide +kernel
theorem dX9_isWord_39 : decode cX9_isWord 39 = .ok (.iconst 1, 1) := by decide +kernel
theorem dX9_isWord_40 : decode cX9_isWord 40 = .ok (.goto 4, 3) := by decide +kernel
theorem dX9_isWord_43 : decode cX9_isWord 43 = .ok (.iconst 0, 1) := by decide +kernel
theorem dX9_isWord_44 : decode cX9_isWord 44 = .ok (.ireturn, 1) := by decide +kernel
theorem dX9_lay_0 : decode cX9_lay 0 = .ok (.bipush 56, 2) := by decide +kernel
theorem dX9_lay_2 : decode cX9_lay 2 = .ok (.istore_n 3, 1) := by decide +kernel
theorem dX9_lay_3 : decode cX9_lay 3 = .ok (.iload_n 3, 1) := by decide +kernel
theorem dX9_lay_4 : decode cX9_lay 4 = .ok (.ifCond .lt 71, 3) := by decide +kernel
theorem dX9_lay_7 : decode cX9_lay 7 = .ok (.lload_n 1, 1) := by decide +kernel
theorem dX9_lay_8 : decode cX9_lay 8 = .ok (.iload_n 3, 1) := by decide +kernel
theorem dX9_lay_9 : decode cX9_lay 9 = .ok (.lshr, 1) := by decide +kernel
theorem dX9_lay_10 : decode cX9_lay 10 = .ok (.l2i, 1) := by decide +kernel
theorem dX9_lay_11 : decode cX9_lay 11 = .ok (.sipush 255, 3) := by decide +kernel
theorem dX9_lay_14 : decode cX9_lay 14 = .ok (.iand, 1) := by decide +kernel
theorem dX9_lay_15 : decode cX9_lay 15 = .ok (.istore 4, 2) := by decide +kernel
theorem dX9_lay_17 : decode cX9_lay 17 = .ok (.iload 4, 2) := by decide +kernel
theorem dX9_lay_19 : decode cX9_lay 19 = .ok (.bipush 10, 2) := by decide +kernel
theorem dX9_lay_21 : decode cX9_lay 21 = .ok (.if_icmp .eq 17, 3) := by decide +kernel
theorem dX9_lay_24 : decode cX9_lay 24 = .ok (.iload 4, 2) := by decide +kernel
theorem dX9_lay_26 : decode cX9_lay 26 = .ok (.bipush 32, 2) := by decide +kernel
theorem dX9_lay_28 : decode cX9_lay 28 = .ok (.if_icmp .lt 41, 3) := by decide +kernel
theorem dX9_lay_31 : decode cX9_lay 31 = .ok (.iload 4, 2) := by decide +kernel
theorem dX9_lay_33 : decode cX9_lay 33 = .ok (.bipush 126, 2) := by decide +kernel
theorem dX9_lay_35 : decode cX9_lay 35 = .ok (.if_icmp .gt 34, 3) := by decide +kernel
theorem dX9_lay_38 : decode cX9_lay 38 = .ok (.aload_n 0, 1) := by decide +kernel
theorem dX9_lay_39 : decode cX9_lay 39 = .ok (.getfield 11, 3) := by decide +kernel
theorem dX9_lay_42 : decode cX9_lay 42 = .ok (.sipush 1000, 3) := by decide +kernel
theorem dX9_lay_45 : decode cX9_lay 45 = .ok (.if_icmp .ge 24, 3) := by decide +kernel
theorem dX9_lay_48 : decode cX9_lay 48 = .ok (.aload_n 0, 1) := by decide +kernel
theorem dX9_lay_49 : decode cX9_lay 49 = .ok (.getfield 14, 3) := by decide +kernel
theorem dX9_lay_52 : decode cX9_lay 52 = .ok (.aload_n 0, 1) := by decide +kernel
theorem dX9_lay_53 : decode cX9_lay 53 = .ok (.getfield 11, 3) := by decide +kernel
theorem dX9_lay_56 : decode cX9_lay 56 = .ok (.iload 4, 2) := by decide +kernel
theorem dX9_lay_58 : decode cX9_lay 58 = .ok (.iastore, 1) := by decide +kernel
theorem dX9_lay_59 : decode cX9_lay 59 = .ok (.aload_n 0, 1) := by decide +kernel
theorem dX9_lay_60 : decode cX9_lay 60 = .ok (.dup, 1) := by decide +kernel
theorem dX9_lay_61 : decode cX9_lay 61 = .ok (.getfield 11, 3) := by decide +kernel
theorem dX9_lay_64 : decode cX9_lay 64 = .ok (.iconst 1, 1) := by decide +kernel
theorem dX9_lay_65 : decode cX9_lay 65 = .ok (.iadd, 1) := by decide +kernel
theorem dX9_lay_66 : decode cX9_lay 66 = .ok (.putfield 11, 3) := by decide +kernel
theorem dX9_lay_69 : decode cX9_lay 69 = .ok (.iinc 3 (-8), 3) := by decide +kernel
theorem dX9_lay_72 : decode cX9_lay 72 = .ok (.goto (-69), 3) := by decide +kernel
theorem dX9_lay_75 : decode cX9_lay 75 = .ok (.return_, 1) := by decide +kernel
theorem dX9_leads_0 : decode cX9_leads 0 = .ok (.aload_n 0, 1) := by decide +kernel
theorem dX9_leads_1 : decode cX9_leads 1 = .ok (.getfield 125, 3) := by decide +kernel
theorem dX9_leads_4 : decode cX9_leads 4 = .ok (.iload_n 1, 1) := by decide +kernel
theorem dX9_leads_5 : decode cX9_leads 5 = .ok (.iaload, 1) := by decide +kernel
theorem dX9_leads_6 : decode cX9_leads 6 = .ok (.aload_n 0, 1) := by decide +kernel
theorem dX9_leads_7 : decode cX9_leads 7 = .ok (.getfield 122, 3) := by decide +kernel
theorem dX9_leads_10 : decode cX9_leads 10 = .ok (.iload_n 1, 1) := by decide +kernel
theorem dX9_leads_11 : decode cX9_leads 11 = .ok (.iaload, 1) := by decide +kernel
theorem dX9_leads_12 : decode cX9_leads 12 = .ok (.iload_n 3, 1) := by decide +kernel
theorem dX9_leads_13 : decode cX9_leads 13 = .ok (.invokestatic 287, 3) := by decide +kernel
theorem dX9_leads_16 : decode cX9_leads 16 = .ok (.invokestatic 323, 3) := by decide +kernel
theorem dX9_leads_19 : decode cX9_leads 19 = .ok (.imul, 1) := by decide +kernel
theorem dX9_leads_20 : decode cX9_leads 20 = .ok (.bipush 8, 2) := by decide +kernel
theorem dX9_leads_22 : decode cX9_leads 22 = .ok (.idiv, 1) := by decide +kernel
theorem dX9_leads_23 : decode cX9_leads 23 = .ok (.istore 4, 2) := by decide +kernel
theorem dX9_leads_25 : decode cX9_leads 25 = .ok (.iload 4, 2) := by decide +kernel
theorem dX9_leads_27 : decode cX9_leads 27 = .ok (.bipush 12, 2) := by decide +kernel
theorem dX9_leads_29 : decode cX9_leads 29 = .ok (.if_icmp .le 8, 3) := by decide +kernel
theorem dX9_leads_32 : decode cX9_leads 32 = .ok (.bipush 12, 2) := by decide +kernel
theorem dX9_leads_34 : decode cX9_leads 34 = .ok (.goto 5, 3) := by decide +kernel
theorem dX9_leads_37 : decode cX9_leads 37 = .ok (.iload 4, 2) := by decide +kernel
theorem dX9_leads_39 : decode cX9_leads 39 = .ok (.istore 4, 2) := by decide +kernel
theorem dX9_leads_41 : decode cX9_leads 41 = .ok (.iload_n 2, 1) := by decide +kernel
theorem dX9_leads_42 : decode cX9_leads 42 = .ok (.bipush 49, 2) := by decide +kernel
theorem dX9_leads_44 : decode cX9_leads 44 = .ok (.irem, 1) := by decide +kernel
theorem dX9_leads_45 : decode cX9_leads 45 = .ok (.iload 4, 2) := by decide +kernel
theorem dX9_leads_47 : decode cX9_leads 47 = .ok (.iload_n 3, 1) := by decide +kernel
theorem dX9_leads_48 : decode cX9_leads 48 = .ok (.invokestatic 350, 3) := by decide +kernel
theorem dX9_leads_51 : decode cX9_leads 51 = .ok (.imul, 1) := by decide +kernel
theorem dX9_leads_52 : decode cX9_leads 52 = .ok (.bipush 16, 2) := by decide +kernel
theorem dX9_leads_54 : decode cX9_leads 54 = .ok (.idiv, 1) := by decide +kernel
theorem dX9_leads_55 : decode cX9_leads 55 = .ok (.iadd, 1) := by decide +kernel
theorem dX9_leads_56 : decode cX9_leads 56 = .ok (.istore 5, 2) := by decide +kernel
theorem dX9_leads_58 : decode cX9_leads 58 = .ok (.iload_n 2, 1) := by decide +kernel
theorem dX9_leads_59 : decode cX9_leads 59 = .ok (.bipush 49, 2) := by decide +kernel
theorem dX9_leads_61 : decode cX9_leads 61 = .ok (.idiv, 1) := by decide +kernel
theorem dX9_leads_62 : decode cX9_leads 62 = .ok (.iload 4, 2) := by decide +kernel
theorem dX9_leads_64 : decode cX9_leads 64 = .ok (.iload_n 3, 1) := by decide +kernel
theorem dX9_leads_65 : decode cX9_leads 65 = .ok (.invokestatic 317, 3) := by decide +kernel
theorem dX9_leads_68 : decode cX9_leads 68 = .ok (.imul, 1) := by decide +kernel
theorem dX9_leads_69 : decode cX9_leads 69 = .ok (.bipush 16, 2) := by decide +kernel
theorem dX9_leads_71 : decode cX9_leads 71 = .ok (.idiv, 1) := by decide +kernel
theorem dX9_leads_72 : decode cX9_leads 72 = .ok (.iadd, 1) := by decide +kernel
theorem dX9_leads_73 : decode cX9_leads 73 = .ok (.istore 6, 2) := by decide +kernel
theorem dX9_leads_75 : decode cX9_leads 75 = .ok (.iload 5, 2) := by decide +kernel
theorem dX9_leads_77 : decode cX9_leads 77 = .ok (.ifCond .lt 22, 3) := by decide +kernel
theorem dX9_leads_80 : decode cX9_leads 80 = .ok (.iload 5, 2) := by decide +kernel
theorem dX9_leads_82 : decode cX9_leads 82 = .ok (.bipush 49, 2) := by decide +kernel
theorem dX9_leads_84 : decode cX9_leads 84 = .ok (.if_icmp .ge 15, 3) := by decide +kernel
theorem dX9_leads_87 : decode cX9_leads 87 = .ok (.iload 6, 2) := by decide +kernel
theorem dX9_leads_89 : decode cX9_leads 89 = .ok (.ifCond .lt 10, 3) := by decide +kernel
theorem dX9_leads_92 : decode cX9_leads 92 = .ok (.iload 6, 2) := by decide +kernel
theorem dX9_leads_94 : decode cX9_leads 94 = .ok (.bipush 49, 2) := by decide +kernel
theorem dX9_leads_96 : decode cX9_leads 96 = .ok (.if_icmp .lt 7, 3) := by decide +kernel
theorem dX9_leads_99 : decode cX9_leads 99 = .ok (.iconst (-1), 1) := by decide +kernel
theorem dX9_leads_100 : decode cX9_leads 100 = .ok (.goto 11, 3) := by decide +kernel
theorem dX9_leads_103 : decode cX9_leads 103 = .ok (.bipush 49, 2) := by decide +kernel
theorem dX9_leads_105 : decode cX9_leads 105 = .ok (.iload 6, 2) := by decide +kernel
theorem dX9_leads_107 : decode cX9_leads 107 = .ok (.imul, 1) := by decide +kernel
theorem dX9_leads_108 : decode cX9_leads 108 = .ok (.iload 5, 2) := by decide +kernel
theorem dX9_leads_110 : decode cX9_leads 110 = .ok (.iadd, 1) := by decide +kernel
theorem dX9_leads_111 : decode cX9_leads 111 = .ok (.ireturn, 1) := by decide +kernel
theorem dX9_leg_0 : decode cX9_leg 0 = .ok (.aload_n 0, 1) := by decide +kernel
theorem dX9_leg_1 : decode cX9_leg 1 = .ok (.iconst 0, 1) := by decide +kernel
theorem dX9_leg_2 : decode cX9_leg 2 = .ok (.putfield 1, 3) := by decide +kernel
theorem dX9_leg_5 : decode cX9_leg 5 = .ok (.iload_n 1, 1) := by decide +kernel
theorem dX9_leg_6 : decode cX9_leg 6 = .ok (.ifCond .lt 11, 3) := by decide +kernel
theorem dX9_leg_9 : decode cX9_leg 9 = .ok (.iload_n 1, 1) := by decide +kernel
theorem dX9_leg_10 : decode cX9_leg 10 = .ok (.aload_n 0, 1) := by decide +kernel
theorem dX9_leg_11 : decode cX9_leg 11 = .ok (.getfield 362, 3) := by decide +kernel
theorem dX9_leg_14 : decode cX9_leg 14 = .ok (.if_icmp .lt 7, 3) := by decide +kernel
theorem dX9_leg_17 : decode cX9_leg 17 = .ok (.iconst (-1), 1) := by decide +kernel
theorem dX9_leg_18 : decode cX9_leg 18 = .ok (.goto 9, 3) := by decide +kernel
theorem dX9_leg_21 : decode cX9_leg 21 = .ok (.aload_n 0, 1) := by decide +kernel
theorem dX9_leg_22 : decode cX9_leg 22 = .ok (.getfield 135, 3) := by decide +kernel
theorem dX9_leg_25 : decode cX9_leg 25 = .ok (.iload_n 1, 1) := by decide +kernel
theorem dX9_leg_26 : decode cX9_leg 26 = .ok (.iaload, 1) := by decide +kernel
theorem dX9_leg_27 : decode cX9_leg 27 = .ok (.ireturn, 1) := by decide +kernel
theorem dX9_loadNow_0 : decode cX9_loadNow 0 = .ok (.iconst 0, 1) := by decide +kernel
theorem dX9_loadNow_1 : decode cX9_loadNow 1 = .ok (.istore_n 1, 1) := by decide +kernel
theorem dX9_loadNow_2 : decode cX9_loadNow 2 = .ok (.iconst 0, 1) := by decide +kernel
theorem dX9_loadNow_3 : decode cX9_loadNow 3 = .ok (.istore_n 2, 1) := by decide +kernel
theorem dX9_loadNow_4 : decode cX9_loadNow 4 = .ok (.iload_n 2, 1) := by decide +kernel
theorem dX9_loadNow_5 : decode cX9_loadNow 5 = .ok (.bipush 18, 2) := by decide +kernel
theorem dX9_loadNow_7 : decode cX9_loadNow 7 = .ok (.if_icmp .ge 40, 3) := by decide +kernel
theorem dX9_loadNow_10 : decode cX9_loadNow 10 = .ok (.aload_n 0, 1) := by decide +kernel
theorem dX9_loadNow_11 : decode cX9_loadNow 11 = .ok (.getfield 86, 3) := by decide +kernel
theorem dX9_loadNow_14 : decode cX9_loadNow 14 = .ok (.iload_n 2, 1) := by decide +kernel
theorem dX9_loadNow_15 : decode cX9_loadNow 15 = .ok (.iaload, 1) := by decide +kernel
theorem dX9_loadNow_16 : decode cX9_loadNow 16 = .ok (.iconst 1, 1) := by decide +kernel
theorem dX9_loadNow_17 : decode cX9_loadNow 17 = .ok (.if_icmp .ne 22, 3) := by decide +kernel
theorem dX9_loadNow_20 : decode cX9_loadNow 20 = .ok (.aload_n 0, 1) := by decide +kernel
theorem dX9_loadNow_21 : decode cX9_loadNow 21 = .ok (.getfield 89, 3) := by decide +kernel
theorem dX9_loadNow_24 : decode cX9_loadNow 24 = .ok (.iload_n 2, 1) := by decide +kernel
theorem dX9_loadNow_25 : decode cX9_loadNow 25 = .ok (.iaload, 1) := by decide +kernel
theorem dX9_loadNow_26 : decode cX9_loadNow 26 = .ok (.iload_n 1, 1) := by decide +kernel
theorem dX9_loadNow_27 : decode cX9_loadNow 27 = .ok (.if_icmp .le 12, 3) := by decide +kernel
theorem dX9_loadNow_30 : decode cX9_loadNow 30 = .ok (.aload_n 0, 1) := by decide +kernel
theorem dX9_loadNow_31 : decode cX9_loadNow 31 = .ok (.getfield 89, 3) := by decide +kernel
theorem dX9_loadNow_34 : decode cX9_loadNow 34 = .ok (.iload_n 2, 1) := by decide +kernel
theorem dX9_loadNow_35 : decode cX9_loadNow 35 = .ok (.iaload, 1) := by decide +kernel
theorem dX9_loadNow_36 : decode cX9_loadNow 36 = .ok (.goto 4, 3) := by decide +kernel
theorem dX9_loadNow_39 : decode cX9_loadNow 39 = .ok (.iload_n 1, 1) := by decide +kernel
theorem dX9_loadNow_40 : decode cX9_loadNow 40 = .ok (.istore_n 1, 1) := by decide +kernel
theorem dX9_loadNow_41 : decode cX9_loadNow 41 = .ok (.iinc 2 1, 3) := by decide +kernel
theorem dX9_loadNow_44 : decode cX9_loadNow 44 = .ok (.goto (-40), 3) := by decide +kernel
theorem dX9_loadNow_47 : decode cX9_loadNow 47 = .ok (.iload_n 1, 1) := by decide +kernel
theorem dX9_loadNow_48 : decode cX9_loadNow 48 = .ok (.ireturn, 1) := by decide +kernel
theorem dX9_loads_0 : decode cX9_loads 0 = .ok (.iconst 0, 1) := by decide +kernel
theorem dX9_loads_1 : decode cX9_loads 1 = .ok (.istore_n 3, 1) := by decide +kernel
theorem dX9_loads_2 : decode cX9_loads 2 = .ok (.iconst 2, 1) := by decide +kernel
theorem dX9_loads_3 : decode cX9_loads 3 = .ok (.iload_n 1, 1) := by decide +kernel
theorem dX9_loads_4 : decode cX9_loads 4 = .ok (.imul, 1) := by decide +kernel
theorem dX9_loads_5 : decode cX9_loads 5 = .ok (.istore 4, 2) := by decide +kernel
theorem dX9_loads_7 : decode cX9_loads 7 = .ok (.iload 4, 2) := by decide +kernel
theorem dX9_loads_9 : decode cX9_loads 9 = .ok (.iconst 2, 1) := by decide +kernel
theorem dX9_loads_10 : decode cX9_loads 10 = .ok (.iload_n 1, 1) := by decide +kernel
theorem dX9_loads_11 : decode cX9_loads 11 = .ok (.imul, 1) := by decide +kernel
theorem dX9_loads_12 : decode cX9_loads 12 = .ok (.iconst 2, 1) := by decide +kernel
theorem dX9_loads_13 : decode cX9_loads 13 = .ok (.iadd, 1) := by decide +kernel
theorem dX9_loads_14 : decode cX9_loads 14 = .ok (.if_icmp .ge 61, 3) := by decide +kernel
theorem dX9_loads_17 : decode cX9_loads 17 = .ok (.aload_n 0, 1) := by decide +kernel
theorem dX9_loads_18 : decode cX9_loads 18 = .ok (.getfield 89, 3) := by decide +kernel
theorem dX9_loads_21 : decode cX9_loads 21 = .ok (.iload 4, 2) := by decide +kernel
theorem dX9_loads_23 : decode cX9_loads 23 = .ok (.iaload, 1) := by decide +kernel
theorem dX9_loads_24 : decode cX9_loads 24 = .ok (.iload_n 2, 1) := by decide +kernel
theorem dX9_loads_25 : decode cX9_loads 25 = .ok (.iadd, 1) := by decide +kernel
theorem dX9_loads_26 : decode cX9_loads 26 = .ok (.sipush 900, 3) := by decide +kernel
theorem dX9_loads_29 : decode cX9_loads 29 = .ok (.if_icmp .le 26, 3) := by decide +kernel
theorem dX9_loads_32 : decode cX9_loads 32 = .ok (.aload_n 0, 1) := by decide +kernel
theorem dX9_loads_33 : decode cX9_loads 33 = .ok (.getfield 86, 3) := by decide +kernel
theorem dX9_loads_36 : decode cX9_loads 36 = .ok (.iload 4, 2) := by decide +kernel
theorem dX9_loads_38 : decode cX9_loads 38 = .ok (.iconst 2, 1) := by decide +kernel
theorem dX9_loads_39 : decode cX9_loads 39 = .ok (.iastore, 1) := by decide +kernel
theorem dX9_loads_40 : decode cX9_loads 40 = .ok (.aload_n 0, 1) := by decide +kernel
theorem dX9_loads_41 : decode cX9_loads 41 = .ok (.dup, 1) := by decide +kernel
theorem dX9_loads_42 : decode cX9_loads 42 = .ok (.getfield 329, 3) := by decide +kernel
theorem dX9_loads_45 : decode cX9_loads 45 = .ok (.iconst 1, 1) := by decide +kernel
theorem dX9_loads_46 : decode cX9_loads 46 = .ok (.iadd, 1) := by decide +kernel
theorem dX9_loads_47 : decode cX9_loads 47 = .ok (.putfield 329, 3) := by decide +kernel
theorem dX9_loads_50 : decode cX9_loads 50 = .ok (.iconst 1, 1) := by decide +kernel
theorem dX9_loads_51 : decode cX9_loads 51 = .ok (.istore_n 3, 1) := by decide +kernel
theorem dX9_loads_52 : decode cX9_loads 52 = .ok (.goto 17, 3) := by decide +kernel
theorem dX9_loads_55 : decode cX9_loads 55 = .ok (.aload_n 0, 1) := by decide +kernel
theorem dX9_loads_56 : decode cX9_loads 56 = .ok (.getfield 89, 3) := by decide +kernel
theorem dX9_loads_59 : decode cX9_loads 59 = .ok (.iload 4, 2) := by decide +kernel
theorem dX9_loads_61 : decode cX9_loads 61 = .ok (.dup2, 1) := by decide +kernel
theorem dX9_loads_62 : decode cX9_loads 62 = .ok (.iaload, 1) := by decide +kernel
theorem dX9_loads_63 : decode cX9_loads 63 = .ok (.iload_n 2, 1) := by decide +kernel
theorem dX9_loads_64 : decode cX9_loads 64 = .ok (.bipush 16, 2) := by decide +kernel
theorem dX9_loads_66 : decode cX9_loads 66 = .ok (.idiv, 1) := by decide +kernel
theorem dX9_loads_67 : decode cX9_loads 67 = .ok (.iadd, 1) := by decide +kernel
theorem dX9_loads_68 : decode cX9_loads 68 = .ok (.iastore, 1) := by decide +kernel
theorem dX9_loads_69 : decode cX9_loads 69 = .ok (.iinc 4 1, 3) := by decide +kernel
theorem dX9_loads_72 : decode cX9_loads 72 = .ok (.goto (-65), 3) := by decide +kernel
theorem dX9_loads_75 : decode cX9_loads 75 = .ok (.iload_n 3, 1) := by decide +kernel
theorem dX9_loads_76 : decode cX9_loads 76 = .ok (.ifCond .ne 4, 3) := by decide +kernel
theorem dX9_loads_79 : decode cX9_loads 79 = .ok (.return_, 1) := by decide +kernel
theorem dX9_loads_80 : decode cX9_loads 80 = .ok (.aload_n 0, 1) := by decide +kernel
theorem dX9_loads_81 : decode cX9_loads 81 = .ok (.getfield 83, 3) := by decide +kernel
theorem dX9_loads_84 : decode cX9_loads 84 = .ok (.iload_n 1, 1) := by decide +kernel
theorem dX9_loads_85 : decode cX9_loads 85 = .ok (.iconst 2, 1) := by decide +kernel
theorem dX9_loads_86 : decode cX9_loads 86 = .ok (.iastore, 1) := by decide +kernel
theorem dX9_loads_87 : decode cX9_loads 87 = .ok (.iconst 2, 1) := by decide +kernel
theorem dX9_loads_88 : decode cX9_loads 88 = .ok (.iload_n 1, 1) := by decide +kernel
theorem dX9_loads_89 : decode cX9_loads 89 = .ok (.imul, 1) := by decide +kernel
theorem dX9_loads_90 : decode cX9_loads 90 = .ok (.istore 4, 2) := by decide +kernel
theorem dX9_loads_92 : decode cX9_loads 92 = .ok (.iload 4, 2) := by decide +kernel
theorem dX9_loads_94 : decode cX9_loads 94 = .ok (.iconst 2, 1) := by decide +kernel
theorem dX9_loads_95 : decode cX9_loads 95 = .ok (.iload_n 1, 1) := by decide +kernel
theorem dX9_loads_96 : decode cX9_loads 96 = .ok (.imul, 1) := by decide +kernel
theorem dX9_loads_97 : decode cX9_loads 97 = .ok (.iconst 2, 1) := by decide +kernel
theorem dX9_loads_98 : decode cX9_loads 98 = .ok (.iadd, 1) := by decide +kernel
theorem dX9_loads_99 : decode cX9_loads 99 = .ok (.if_icmp .ge 38, 3) := by decide +kernel
theorem dX9_loads_102 : decode cX9_loads 102 = .ok (.aload_n 0, 1) := by decide +kernel
theorem dX9_loads_103 : decode cX9_loads 103 = .ok (.getfield 86, 3) := by decide +kernel
theorem dX9_loads_106 : decode cX9_loads 106 = .ok (.iload 4, 2) := by decide +kernel
theorem dX9_loads_108 : decode cX9_loads 108 = .ok (.aload_n 0, 1) := by decide +kernel
theorem dX9_loads_109 : decode cX9_loads 109 = .ok (.getfield 86, 3) := by decide +kernel
theorem dX9_loads_112 : decode cX9_loads 112 = .ok (.iload 4, 2) := by decide +kernel
theorem dX9_loads_114 : decode cX9_loads 114 = .ok (.iaload, 1) := by decide +kernel
theorem dX9_loads_115 : decode cX9_loads 115 = .ok (.iconst 1, 1) := by decide +kernel
theorem dX9_loads_116 : decode cX9_loads 116 = .ok (.if_icmp .ne 7, 3) := by decide +kernel
theorem dX9_loads_119 : decode cX9_loads 119 = .ok (.iconst 0, 1) := by decide +kernel
theorem dX9_loads_120 : decode cX9_loads 120 = .ok (.goto 10, 3) := by decide +kernel
theorem dX9_loads_123 : decode cX9_loads 123 = .ok (.aload_n 0, 1) := by decide +kernel
theorem dX9_loads_124 : decode cX9_loads 124 = .ok (.getfield 86, 3) := by decide +kernel
theorem dX9_loads_127 : decode cX9_loads 127 = .ok (.iload 4, 2) := by decide +kernel
theorem dX9_loads_129 : decode cX9_loads 129 = .ok (.iaload, 1) := by decide +kernel
theorem dX9_loads_130 : decode cX9_loads 130 = .ok (.iastore, 1) := by decide +kernel
theorem dX9_loads_131 : decode cX9_loads 131 = .ok (.iinc 4 1, 3) := by decide +kernel
theorem dX9_loads_134 : decode cX9_loads 134 = .ok (.goto (-42), 3) := by decide +kernel
theorem dX9_loads_137 : decode cX9_loads 137 = .ok (.iconst 0, 1) := by decide +kernel
theorem dX9_loads_138 : decode cX9_loads 138 = .ok (.istore 4, 2) := by decide +kernel
theorem dX9_loads_140 : decode cX9_loads 140 = .ok (.iload 4, 2) := by decide +kernel
theorem dX9_loads_142 : decode cX9_loads 142 = .ok (.bipush 24, 2) := by decide +kernel
theorem dX9_loads_144 : decode cX9_loads 144 = .ok (.if_icmp .ge 37, 3) := by decide +kernel
theorem dX9_loads_147 : decode cX9_loads 147 = .ok (.aload_n 0, 1) := by decide +kernel
theorem dX9_loads_148 : decode cX9_loads 148 = .ok (.getfield 98, 3) := by decide +kernel
theorem dX9_loads_151 : decode cX9_loads 151 = .ok (.iload 4, 2) := by decide +kernel
theorem dX9_loads_153 : decode cX9_loads 153 = .ok (.iaload, 1) := by decide +kernel
theorem dX9_loads_154 : decode cX9_loads 154 = .ok (.iconst 2, 1) := by decide +kernel
theorem dX9_loads_155 : decode cX9_loads 155 = .ok (.if_icmp .ne 20, 3) := by decide +kernel
theorem dX9_loads_158 : decode cX9_loads 158 = .ok (.aload_n 0, 1) := by decide +kernel
theorem dX9_loads_159 : decode cX9_loads 159 = .ok (.getfield 101, 3) := by decide +kernel
theorem dX9_loads_162 : decode cX9_loads 162 = .ok (.iload 4, 2) := by decide +kernel
theorem dX9_loads_164 : decode cX9_loads 164 = .ok (.iaload, 1) := by decide +kernel
theorem dX9_loads_165 : decode cX9_loads 165 = .ok (.iload_n 1, 1) := by decide +kernel
theorem dX9_loads_166 : decode cX9_loads 166 = .ok (.if_icmp .ne 9, 3) := by decide +kernel
theorem dX9_loads_169 : decode cX9_loads 169 = .ok (.aload_n 0, 1) := by decide +kernel
theorem dX9_loads_170 : decode cX9_loads 170 = .ok (.iload 4, 2) := by decide +kernel
theorem dX9_loads_172 : decode cX9_loads 172 = .ok (.invokevirtual 275, 3) := by decide +kernel
theorem dX9_loads_175 : decode cX9_loads 175 = .ok (.iinc 4 1, 3) := by decide +kernel
theorem dX9_loads_178 : decode cX9_loads 178 = .ok (.goto (-38), 3) := by decide +kernel
theorem dX9_loads_181 : decode cX9_loads 181 = .ok (.return_, 1) := by decide +kernel
theorem dX9_look_0 : decode cX9_look 0 = .ok (.aload_n 0, 1) := by decide +kernel
theorem dX9_look_1 : decode cX9_look 1 = .ok (.iconst 0, 1) := by decide +kernel
theorem dX9_look_2 : decode cX9_look 2 = .ok (.putfield 1, 3) := by decide +kernel
theorem dX9_look_5 : decode cX9_look 5 = .ok (.iconst 0, 1) := by decide +kernel
theorem dX9_look_6 : decode cX9_look 6 = .ok (.istore_n 2, 1) := by decide +kernel
theorem dX9_look_7 : decode cX9_look 7 = .ok (.iconst 0, 1) := by decide +kernel
theorem dX9_look_8 : decode cX9_look 8 = .ok (.istore_n 3, 1) := by decide +kernel
theorem dX9_look_9 : decode cX9_look 9 = .ok (.iload_n 3, 1) := by decide +kernel
theorem dX9_look_10 : decode cX9_look 10 = .ok (.bipush 24, 2) := by decide +kernel
theorem dX9_look_12 : decode cX9_look 12 = .ok (.if_icmp .ge 26, 3) := by decide +kernel
theorem dX9_look_15 : decode cX9_look 15 = .ok (.iload_n 2, 1) := by decide +kernel
theorem dX9_look_16 : decode cX9_look 16 = .ok (.aload_n 0, 1) := by decide +kernel
theorem dX9_look_17 : decode cX9_look 17 = .ok (.getfield 98, 3) := by decide +kernel
theorem dX9_look_20 : decode cX9_look 20 = .ok (.iload_n 3, 1) := by decide +kernel
theorem dX9_look_21 : decode cX9_look 21 = .ok (.iaload, 1) := by decide +kernel
theorem dX9_look_22 : decode cX9_look 22 = .ok (.ifCond .le 7, 3) := by decide +kernel
theorem dX9_look_25 : decode cX9_look 25 = .ok (.iconst 1, 1) := by decide +kernel
theorem dX9_look_26 : decode cX9_look 26 = .ok (.goto 4, 3) := by decide +kernel
theorem dX9_look_29 : decode cX9_look 29 = .ok (.iconst 0, 1) := by decide +kernel
theorem dX9_look_30 : decode cX9_look 30 = .ok (.iadd, 1) := by decide +kernel
theorem dX9_look_31 : decode cX9_look 31 = .ok (.istore_n 2, 1) := by decide +kernel
theorem dX9_look_32 : decode cX9_look 32 = .ok (.iinc 3 1, 3) := by decide +kernel
theorem dX9_look_35 : decode cX9_look 35 = .ok (.goto (-26), 3) := by decide +kernel
theorem dX9_look_38 : decode cX9_look 38 = .ok (.iload_n 1, 1) := by decide +kernel
theorem dX9_look_39 : decode cX9_look 39 = .ok (.tableswitch 202 0 14 #[73, 78, 83, 88, 93, 98, 103, 108, 110, 115, 120, 130, 159, 164, 183], 73) := by decide +kernel
theorem dX9_look_112 : decode cX9_look 112 = .ok (.aload_n 0, 1) := by decide +kernel
theorem dX9_look_113 : decode cX9_look 113 = .ok (.getfield 242, 3) := by decide +kernel
theorem dX9_look_116 : decode cX9_look 116 = .ok (.ireturn, 1) := by decide +kernel
theorem dX9_look_117 : decode cX9_look 117 = .ok (.aload_n 0, 1) := by decide +kernel
theorem dX9_look_118 : decode cX9_look 118 = .ok (.getfield 284, 3) := by decide +kernel
theorem dX9_look_121 : decode cX9_look 121 = .ok (.ireturn, 1) := by decide +kernel
theorem dX9_look_122 : decode cX9_look 122 = .ok (.aload_n 0, 1) := by decide +kernel
theorem dX9_look_123 : decode cX9_look 123 = .ok (.getfield 308, 3) := by decide +kernel
theorem dX9_look_126 : decode cX9_look 126 = .ok (.ireturn, 1) := by decide +kernel
theorem dX9_look_127 : decode cX9_look 127 = .ok (.aload_n 0, 1) := by decide +kernel
theorem dX9_look_128 : decode cX9_look 128 = .ok (.getfield 290, 3) := by decide +kernel
theorem dX9_look_131 : decode cX9_look 131 = .ok (.ireturn, 1) := by decide +kernel
theorem dX9_look_132 : decode cX9_look 132 = .ok (.aload_n 0, 1) := by decide +kernel
theorem dX9_look_133 : decode cX9_look 133 = .ok (.getfield 347, 3) := by decide +kernel
theorem dX9_look_136 : decode cX9_look 136 = .ok (.ireturn, 1) := by decide +kernel
theorem dX9_look_137 : decode cX9_look 137 = .ok (.aload_n 0, 1) := by decide +kernel
theorem dX9_look_138 : decode cX9_look 138 = .ok (.getfield 353, 3) := by decide +kernel
theorem dX9_look_141 : decode cX9_look 141 = .ok (.ireturn, 1) := by decide +kernel
theorem dX9_look_142 : decode cX9_look 142 = .ok (.aload_n 0, 1) := by decide +kernel
theorem dX9_look_143 : decode cX9_look 143 = .ok (.getfield 252, 3) := by decide +kernel
theorem dX9_look_146 : decode cX9_look 146 = .ok (.ireturn, 1) := by decide +kernel
theorem dX9_look_147 : decode cX9_look 147 = .ok (.iload_n 2, 1) := by decide +kernel
theorem dX9_look_148 : decode cX9_look 148 = .ok (.ireturn, 1) := by decide +kernel
theorem dX9_look_149 : decode cX9_look 149 = .ok (.aload_n 0, 1) := by decide +kernel
theorem dX9_look_150 : decode cX9_look 150 = .ok (.getfield 329, 3) := by decide +kernel
theorem dX9_look_153 : decode cX9_look 153 = .ok (.ireturn, 1) := by decide +kernel
theorem dX9_look_154 : decode cX9_look 154 = .ok (.aload_n 0, 1) := by decide +kernel
theorem dX9_look_155 : decode cX9_look 155 = .ok (.getfield 302, 3) := by decide +kernel
theorem dX9_look_158 : decode cX9_look 158 = .ok (.ireturn, 1) := by decide +kernel
theorem dX9_look_159 : decode cX9_look 159 = .ok (.aload_n 0, 1) := by decide +kernel
theorem dX9_look_160 : decode cX9_look 160 = .ok (.getfield 80, 3) := by decide +kernel
theorem dX9_look_163 : decode cX9_look 163 = .ok (.aload_n 0, 1) := by decide +kernel
theorem dX9_look_164 : decode cX9_look 164 = .ok (.getfield 192, 3) := by decide +kernel
theorem dX9_look_167 : decode cX9_look 167 = .ok (.iaload, 1) := by decide +kernel
theorem dX9_look_168 : decode cX9_look 168 = .ok (.ireturn, 1) := by decide +kernel
theorem dX9_look_169 : decode cX9_look 169 = .ok (.aload_n 0, 1) := by decide +kernel
theorem dX9_look_170 : decode cX9_look 170 = .ok (.getfield 71, 3) := by decide +kernel
theorem dX9_look_173 : decode cX9_look 173 = .ok (.aload_n 0, 1) := by decide +kernel
theorem dX9_look_174 : decode cX9_look 174 = .ok (.getfield 205, 3) := by decide +kernel
theorem dX9_look_177 : decode cX9_look 177 = .ok (.iaload, 1) := by decide +kernel
theorem dX9_look_178 : decode cX9_look 178 = .ok (.ifCond .ne 18, 3) := by decide +kernel
theorem dX9_look_181 : decode cX9_look 181 = .ok (.aload_n 0, 1) := by decide +kernel
theorem dX9_look_182 : decode cX9_look 182 = .ok (.getfield 208, 3) := by decide +kernel
theorem dX9_look_185 : decode cX9_look 185 = .ok (.aload_n 0, 1) := by decide +kernel
theorem dX9_look_186 : decode cX9_look 186 = .ok (.getfield 242, 3) := by decide +kernel
theorem dX9_look_189 : decode cX9_look 189 = .ok (.if_icmp .gt 7, 3) := by decide +kernel
theorem dX9_look_192 : decode cX9_look 192 = .ok (.iconst 1, 1) := by decide +kernel
theorem dX9_look_193 : decode cX9_look 193 = .ok (.goto 4, 3) := by decide +kernel
theorem dX9_look_196 : decode cX9_look 196 = .ok (.iconst 0, 1) := by decide +kernel
theorem dX9_look_197 : decode cX9_look 197 = .ok (.ireturn, 1) := by decide +kernel
theorem dX9_look_198 : decode cX9_look 198 = .ok (.aload_n 0, 1) := by decide +kernel
theorem dX9_look_199 : decode cX9_look 199 = .ok (.getfield 11, 3) := by decide +kernel
theorem dX9_look_202 : decode cX9_look 202 = .ok (.ireturn, 1) := by decide +kernel
theorem dX9_look_203 : decode cX9_look 203 = .ok (.aload_n 0, 1) := by decide +kernel
theorem dX9_look_204 : decode cX9_look 204 = .ok (.getfield 242, 3) := by decide +kernel
theorem dX9_look_207 : decode cX9_look 207 = .ok (.ifCond .ne 10, 3) := by decide +kernel
theorem dX9_look_210 : decode cX9_look 210 = .ok (.aload_n 0, 1) := by decide +kernel
theorem dX9_look_211 : decode cX9_look 211 = .ok (.invokevirtual 281, 3) := by decide +kernel
theorem dX9_look_214 : decode cX9_look 214 = .ok (.goto 7, 3) := by decide +kernel
theorem dX9_look_217 : decode cX9_look 217 = .ok (.aload_n 0, 1) := by decide +kernel
theorem dX9_look_218 : decode cX9_look 218 = .ok (.getfield 332, 3) := by decide +kernel
theorem dX9_look_221 : decode cX9_look 221 = .ok (.ireturn, 1) := by decide +kernel
theorem dX9_look_222 : decode cX9_look 222 = .ok (.aload_n 0, 1) := by decide +kernel
theorem dX9_look_223 : decode cX9_look 223 = .ok (.getfield 242, 3) := by decide +kernel
theorem dX9_look_226 : decode cX9_look 226 = .ok (.ifCond .ne 10, 3) := by decide +kernel
theorem dX9_look_229 : decode cX9_look 229 = .ok (.aload_n 0, 1) := by decide +kernel
theorem dX9_look_230 : decode cX9_look 230 = .ok (.invokevirtual 278, 3) := by decide +kernel
theorem dX9_look_233 : decode cX9_look 233 = .ok (.goto 7, 3) := by decide +kernel
theorem dX9_look_236 : decode cX9_look 236 = .ok (.aload_n 0, 1) := by decide +kernel
theorem dX9_look_237 : decode cX9_look 237 = .ok (.getfield 335, 3) := by decide +kernel
theorem dX9_look_240 : decode cX9_look 240 = .ok (.ireturn, 1) := by decide +kernel
theorem dX9_look_241 : decode cX9_look 241 = .ok (.iconst (-1), 1) := by decide +kernel
theorem dX9_look_242 : decode cX9_look 242 = .ok (.ireturn, 1) := by decide +kernel
theorem dX9_marksBack_0 : decode cX9_marksBack 0 = .ok (.iconst 0, 1) := by decide +kernel
theorem dX9_marksBack_1 : decode cX9_marksBack 1 = .ok (.istore_n 2, 1) := by decide +kernel
theorem dX9_marksBack_2 : decode cX9_marksBack 2 = .ok (.iload_n 2, 1) := by decide +kernel
theorem dX9_marksBack_3 : decode cX9_marksBack 3 = .ok (.sipush 2401, 3) := by decide +kernel
theorem dX9_marksBack_6 : decode cX9_marksBack 6 = .ok (.if_icmp .ge 98, 3) := by decide +kernel
theorem dX9_marksBack_9 : decode cX9_marksBack 9 = .ok (.iconst 0, 1) := by decide +kernel
theorem dX9_marksBack_10 : decode cX9_marksBack 10 = .ok (.istore_n 3, 1) := by decide +kernel
theorem dX9_marksBack_11 : decode cX9_marksBack 11 = .ok (.iconst 0, 1) := by decide +kernel
theorem dX9_marksBack_12 : decode cX9_marksBack 12 = .ok (.istore 4, 2) := by decide +kernel
theorem dX9_marksBack_14 : decode cX9_marksBack 14 = .ok (.iload 4, 2) := by decide +kernel
theorem dX9_marksBack_16 : decode cX9_marksBack 16 = .ok (.bipush 32, 2) := by decide +kernel
theorem dX9_marksBack_18 : decode cX9_marksBack 18 = .ok (.if_icmp .ge 67, 3) := by decide +kernel
theorem dX9_marksBack_21 : decode cX9_marksBack 21 = .ok (.iload_n 3, 1) := by decide +kernel
theorem dX9_marksBack_22 : decode cX9_marksBack 22 = .ok (.ifCond .ne 63, 3) := by decide +kernel
theorem dX9_marksBack_25 : decode cX9_marksBack 25 = .ok (.aload_n 0, 1) := by decide +kernel
theorem dX9_marksBack_26 : decode cX9_marksBack 26 = .ok (.getfield 128, 3) := by decide +kernel
theorem dX9_marksBack_29 : decode cX9_marksBack 29 = .ok (.sipush 2401, 3) := by decide +kernel
theorem dX9_marksBack_32 : decode cX9_marksBack 32 = .ok (.iload_n 1, 1) := by decide +kernel
theorem dX9_marksBack_33 : decode cX9_marksBack 33 = .ok (.imul, 1) := by decide +kernel
theorem dX9_marksBack_34 : decode cX9_marksBack 34 = .ok (.iload_n 2, 1) := by decide +kernel
theorem dX9_marksBack_35 : decode cX9_marksBack 35 = .ok (.iadd, 1) := by decide +kernel
theorem dX9_marksBack_36 : decode cX9_marksBack 36 = .ok (.baload, 1) := by decide +kernel
theorem dX9_marksBack_37 : decode cX9_marksBack 37 = .ok (.ifCond .eq 48, 3) := by decide +kernel
theorem dX9_marksBack_40 : decode cX9_marksBack 40 = .ok (.aload_n 0, 1) := by decide +kernel
theorem dX9_marksBack_41 : decode cX9_marksBack 41 = .ok (.iload_n 1, 1) := by decide +kernel
theorem dX9_marksBack_42 : decode cX9_marksBack 42 = .ok (.iload_n 2, 1) := by decide +kernel
theorem dX9_marksBack_43 : decode cX9_marksBack 43 = .ok (.iload 4, 2) := by decide +kernel
theorem dX9_marksBack_45 : decode cX9_marksBack 45 = .ok (.invokevirtual 359, 3) := by decide +kernel
theorem dX9_marksBack_48 : decode cX9_marksBack 48 = .ok (.istore 5, 2) := by decide +kernel
theorem dX9_marksBack_50 : decode cX9_marksBack 50 = .ok (.iload 5, 2) := by decide +kernel
theorem dX9_marksBack_52 : decode cX9_marksBack 52 = .ok (.ifCond .lt 25, 3) := by decide +kernel
theorem dX9_marksBack_55 : decode cX9_marksBack 55 = .ok (.aload_n 0, 1) := by decide +kernel
theorem dX9_marksBack_56 : decode cX9_marksBack 56 = .ok (.getfield 132, 3) := by decide +kernel
theorem dX9_marksBack_59 : decode cX9_marksBack 59 = .ok (.sipush 2401, 3) := by decide +kernel
theorem dX9_marksBack_62 : decode cX9_marksBack 62 = .ok (.iload_n 1, 1) := by decide +kernel
theorem dX9_marksBack_63 : decode cX9_marksBack 63 = .ok (.iconst 1, 1) := by decide +kernel
theorem dX9_marksBack_64 : decode cX9_marksBack 64 = .ok (.iadd, 1) := by decide +kernel
theorem dX9_marksBack_65 : decode cX9_marksBack 65 = .ok (.imul, 1) := by decide +kernel
theorem dX9_marksBack_66 : decode cX9_marksBack 66 = .ok (.iload 5, 2) := by decide +kernel
theorem dX9_marksBack_68 : decode cX9_marksBack 68 = .ok (.iadd, 1) := by decide +kernel
theorem dX9_marksBack_69 : decode cX9_marksBack 69 = .ok (.baload, 1) := by decide +kernel
theorem dX9_marksBack_70 : decode cX9_marksBack 70 = .ok (.ifCond .eq 7, 3) := by decide +kernel
theorem dX9_marksBack_73 : decode cX9_marksBack 73 = .ok (.iconst 1, 1) := by decide +kernel
theorem dX9_marksBack_74 : decode cX9_marksBack 74 = .ok (.goto 4, 3) := by decide +kernel
theorem dX9_marksBack_77 : decode cX9_marksBack 77 = .ok (.iconst 0, 1) := by decide +kernel
theorem dX9_marksBack_78 : decode cX9_marksBack 78 = .ok (.istore_n 3, 1) := by decide +kernel
theorem dX9_marksBack_79 : decode cX9_marksBack 79 = .ok (.iinc 4 1, 3) := by decide +kernel
theorem dX9_marksBack_82 : decode cX9_marksBack 82 = .ok (.goto (-68), 3) := by decide +kernel
theorem dX9_marksBack_85 : decode cX9_marksBack 85 = .ok (.aload_n 0, 1) := by decide +kernel
theorem dX9_marksBack_86 : decode cX9_marksBack 86 = .ok (.getfield 132, 3) := by decide +kernel
theorem dX9_marksBack_89 : decode cX9_marksBack 89 = .ok (.sipush 2401, 3) := by decide +kernel
theorem dX9_marksBack_92 : decode cX9_marksBack 92 = .ok (.iload_n 1, 1) := by decide +kernel
theorem dX9_marksBack_93 : decode cX9_marksBack 93 = .ok (.imul, 1) := by decide +kernel
theorem dX9_marksBack_94 : decode cX9_marksBack 94 = .ok (.iload_n 2, 1) := by decide +kernel
theorem dX9_marksBack_95 : decode cX9_marksBack 95 = .ok (.iadd, 1) := by decide +kernel
theorem dX9_marksBack_96 : decode cX9_marksBack 96 = .ok (.iload_n 3, 1) := by decide +kernel
theorem dX9_marksBack_97 : decode cX9_marksBack 97 = .ok (.bastore, 1) := by decide +kernel
theorem dX9_marksBack_98 : decode cX9_marksBack 98 = .ok (.iinc 2 1, 3) := by decide +kernel
theorem dX9_marksBack_101 : decode cX9_marksBack 101 = .ok (.goto (-99), 3) := by decide +kernel
theorem dX9_marksBack_104 : decode cX9_marksBack 104 = .ok (.return_, 1) := by decide +kernel
theorem dX9_marksForth_0 : decode cX9_marksForth 0 = .ok (.iconst 0, 1) := by decide +kernel
theorem dX9_marksForth_1 : decode cX9_marksForth 1 = .ok (.istore_n 2, 1) := by decide +kernel
theorem dX9_marksForth_2 : decode cX9_marksForth 2 = .ok (.iload_n 2, 1) := by decide +kernel
theorem dX9_marksForth_3 : decode cX9_marksForth 3 = .ok (.sipush 2401, 3) := by decide +kernel
theorem dX9_marksForth_6 : decode cX9_marksForth 6 = .ok (.if_icmp .ge 68, 3) := by decide +kernel
theorem dX9_marksForth_9 : decode cX9_marksForth 9 = .ok (.iconst 0, 1) := by decide +kernel
theorem dX9_marksForth_10 : decode cX9_marksForth 10 = .ok (.istore_n 3, 1) := by decide +kernel
theorem dX9_marksForth_11 : decode cX9_marksForth 11 = .ok (.iload_n 3, 1) := by decide +kernel
theorem dX9_marksForth_12 : decode cX9_marksForth 12 = .ok (.bipush 32, 2) := by decide +kernel
theorem dX9_marksForth_14 : decode cX9_marksForth 14 = .ok (.if_icmp .ge 54, 3) := by decide +kernel
theorem dX9_marksForth_17 : decode cX9_marksForth 17 = .ok (.aload_n 0, 1) := by decide +kernel
theorem dX9_marksForth_18 : decode cX9_marksForth 18 = .ok (.getfield 128, 3) := by decide +kernel
theorem dX9_marksForth_21 : decode cX9_marksForth 21 = .ok (.sipush 2401, 3) := by decide +kernel
theorem dX9_marksForth_24 : decode cX9_marksForth 24 = .ok (.iload_n 1, 1) := by decide +kernel
theorem dX9_marksForth_25 : decode cX9_marksForth 25 = .ok (.imul, 1) := by decide +kernel
theorem dX9_marksForth_26 : decode cX9_marksForth 26 = .ok (.iload_n 2, 1) := by decide +kernel
theorem dX9_marksForth_27 : decode cX9_marksForth 27 = .ok (.iadd, 1) := by decide +kernel
theorem dX9_marksForth_28 : decode cX9_marksForth 28 = .ok (.baload, 1) := by decide +kernel
theorem dX9_marksForth_29 : decode cX9_marksForth 29 = .ok (.ifCond .eq 39, 3) := by decide +kernel
theorem dX9_marksForth_32 : decode cX9_marksForth 32 = .ok (.aload_n 0, 1) := by decide +kernel
theorem dX9_marksForth_33 : decode cX9_marksForth 33 = .ok (.iload_n 1, 1) := by decide +kernel
theorem dX9_marksForth_34 : decode cX9_marksForth 34 = .ok (.iload_n 2, 1) := by decide +kernel
theorem dX9_marksForth_35 : decode cX9_marksForth 35 = .ok (.iload_n 3, 1) := by decide +kernel
theorem dX9_marksForth_36 : decode cX9_marksForth 36 = .ok (.invokevirtual 359, 3) := by decide +kernel
theorem dX9_marksForth_39 : decode cX9_marksForth 39 = .ok (.istore 4, 2) := by decide +kernel
theorem dX9_marksForth_41 : decode cX9_marksForth 41 = .ok (.iload 4, 2) := by decide +kernel
theorem dX9_marksForth_43 : decode cX9_marksForth 43 = .ok (.ifCond .lt 19, 3) := by decide +kernel
theorem dX9_marksForth_46 : decode cX9_marksForth 46 = .ok (.aload_n 0, 1) := by decide +kernel
theorem dX9_marksForth_47 : decode cX9_marksForth 47 = .ok (.getfield 128, 3) := by decide +kernel
theorem dX9_marksForth_50 : decode cX9_marksForth 50 = .ok (.sipush 2401, 3) := by decide +kernel
theorem dX9_marksForth_53 : decode cX9_marksForth 53 = .ok (.iload_n 1, 1) := by decide +kernel
theorem dX9_marksForth_54 : decode cX9_marksForth 54 = .ok (.iconst 1, 1) := by decide +kernel
theorem dX9_marksForth_55 : decode cX9_marksForth 55 = .ok (.iadd, 1) := by decide +kernel
theorem dX9_marksForth_56 : decode cX9_marksForth 56 = .ok (.imul, 1) := by decide +kernel
theorem dX9_marksForth_57 : decode cX9_marksForth 57 = .ok (.iload 4, 2) := by decide +kernel
theorem dX9_marksForth_59 : decode cX9_marksForth 59 = .ok (.iadd, 1) := by decide +kernel
theorem dX9_marksForth_60 : decode cX9_marksForth 60 = .ok (.iconst 1, 1) := by decide +kernel
theorem dX9_marksForth_61 : decode cX9_marksForth 61 = .ok (.bastore, 1) := by decide +kernel
theorem dX9_marksForth_62 : decode cX9_marksForth 62 = .ok (.iinc 3 1, 3) := by decide +kernel
theorem dX9_marksForth_65 : decode cX9_marksForth 65 = .ok (.goto (-54), 3) := by decide +kernel
theorem dX9_marksForth_68 : decode cX9_marksForth 68 = .ok (.iinc 2 1, 3) := by decide +kernel
theorem dX9_marksForth_71 : decode cX9_marksForth 71 = .ok (.goto (-69), 3) := by decide +kernel
theorem dX9_marksForth_74 : decode cX9_marksForth 74 = .ok (.return_, 1) := by decide +kernel
theorem dX9_minutes_0 : decode cX9_minutes 0 = .ok (.aload_n 0, 1) := by decide +kernel
theorem dX9_minutes_1 : decode cX9_minutes 1 = .ok (.iconst 0, 1) := by decide +kernel
theorem dX9_minutes_2 : decode cX9_minutes 2 = .ok (.putfield 1, 3) := by decide +kernel
theorem dX9_minutes_5 : decode cX9_minutes 5 = .ok (.iload_n 1, 1) := by decide +kernel
theorem dX9_minutes_6 : decode cX9_minutes 6 = .ok (.ifCond .lt 9, 3) := by decide +kernel
theorem dX9_minutes_9 : decode cX9_minutes 9 = .ok (.iload_n 1, 1) := by decide +kernel
theorem dX9_minutes_10 : decode cX9_minutes 10 = .ok (.bipush 120, 2) := by decide +kernel
theorem dX9_minutes_12 : decode cX9_minutes 12 = .ok (.if_icmp .le 5, 3) := by decide +kernel
theorem dX9_minutes_15 : decode cX9_minutes 15 = .ok (.iconst (-1), 1) := by decide +kernel
theorem dX9_minutes_16 : decode cX9_minutes 16 = .ok (.ireturn, 1) := by decide +kernel
theorem dX9_minutes_17 : decode cX9_minutes 17 = .ok (.iconst 0, 1) := by decide +kernel
theorem dX9_minutes_18 : decode cX9_minutes 18 = .ok (.istore_n 2, 1) := by decide +kernel
theorem dX9_minutes_19 : decode cX9_minutes 19 = .ok (.iload_n 2, 1) := by decide +kernel
theorem dX9_minutes_20 : decode cX9_minutes 20 = .ok (.iload_n 1, 1) := by decide +kernel
theorem dX9_minutes_21 : decode cX9_minutes 21 = .ok (.if_icmp .ge 13, 3) := by decide +kernel
theorem dX9_minutes_24 : decode cX9_minutes 24 = .ok (.aload_n 0, 1) := by decide +kernel
theorem dX9_minutes_25 : decode cX9_minutes 25 = .ok (.invokevirtual 356, 3) := by decide +kernel
theorem dX9_minutes_28 : decode cX9_minutes 28 = .ok (.iinc 2 1, 3) := by decide +kernel
theorem dX9_minutes_31 : decode cX9_minutes 31 = .ok (.goto (-12), 3) := by decide +kernel
theorem dX9_minutes_34 : decode cX9_minutes 34 = .ok (.aload_n 0, 1) := by decide +kernel
theorem dX9_minutes_35 : decode cX9_minutes 35 = .ok (.getfield 242, 3) := by decide +kernel
theorem dX9_minutes_38 : decode cX9_minutes 38 = .ok (.ireturn, 1) := by decide +kernel
theorem dX9_minutesOf_0 : decode cX9_minutesOf 0 = .ok (.iload_n 0, 1) := by decide +kernel
theorem dX9_minutesOf_1 : decode cX9_minutesOf 1 = .ok (.ifCond .ne 13, 3) := by decide +kernel
theorem dX9_minutesOf_4 : decode cX9_minutesOf 4 = .ok (.iconst 4, 1) := by decide +kernel
theorem dX9_minutesOf_5 : decode cX9_minutesOf 5 = .ok (.iconst 2, 1) := by decide +kernel
theorem dX9_minutesOf_6 : decode cX9_minutesOf 6 = .ok (.iload_n 1, 1) := by decide +kernel
theorem dX9_minutesOf_7 : decode cX9_minutesOf 7 = .ok (.iconst 3, 1) := by decide +kernel
theorem dX9_minutesOf_8 : decode cX9_minutesOf 8 = .ok (.irem, 1) := by decide +kernel
theorem dX9_minutesOf_9 : decode cX9_minutesOf 9 = .ok (.imul, 1) := by decide +kernel
theorem dX9_minutesOf_10 : decode cX9_minutesOf 10 = .ok (.iadd, 1) := by decide +kernel
theorem dX9_minutesOf_11 : decode cX9_minutesOf 11 = .ok (.goto 32, 3) := by decide +kernel
theorem dX9_minutesOf_14 : decode cX9_minutesOf 14 = .ok (.iload_n 0, 1) := by decide +kernel
theorem dX9_minutesOf_15 : decode cX9_minutesOf 15 = .ok (.iconst 1, 1) := by decide +kernel
theorem dX9_minutesOf_16 : decode cX9_minutesOf 16 = .ok (.if_icmp .ne 14, 3) := by decide +kernel
theorem dX9_minutesOf_19 : decode cX9_minutesOf 19 = .ok (.bipush 6, 2) := by decide +kernel
theorem dX9_minutesOf_21 : decode cX9_minutesOf 21 = .ok (.iconst 2, 1) := by decide +kernel
theorem dX9_minutesOf_22 : decode cX9_minutesOf 22 = .ok (.iload_n 1, 1) := by decide +kernel
theorem dX9_minutesOf_23 : decode cX9_minutesOf 23 = .ok (.iconst 3, 1) := by decide +kernel
theorem dX9_minutesOf_24 : decode cX9_minutesOf 24 = .ok (.irem, 1) := by decide +kernel
theorem dX9_minutesOf_25 : decode cX9_minutesOf 25 = .ok (.imul, 1) := by decide +kernel
theorem dX9_minutesOf_26 : decode cX9_minutesOf 26 = .ok (.iadd, 1) := by decide +kernel
theorem dX9_minutesOf_27 : decode cX9_minutesOf 27 = .ok (.goto 16, 3) := by decide +kernel
theorem dX9_minutesOf_30 : decode cX9_minutesOf 30 = .ok (.iload_n 0, 1) := by decide +kernel
theorem dX9_minutesOf_31 : decode cX9_minutesOf 31 = .ok (.iconst 2, 1) := by decide +kernel
theorem dX9_minutesOf_32 : decode cX9_minutesOf 32 = .ok (.if_icmp .ne 9, 3) := by decide +kernel
theorem dX9_minutesOf_35 : decode cX9_minutesOf 35 = .ok (.iconst 2, 1) := by decide +kernel
theorem dX9_minutesOf_36 : decode cX9_minutesOf 36 = .ok (.iload_n 2, 1) := by decide +kernel
theorem dX9_minutesOf_37 : decode cX9_minutesOf 37 = .ok (.imul, 1) := by decide +kernel
theorem dX9_minutesOf_38 : decode cX9_minutesOf 38 = .ok (.goto 5, 3) := by decide +kernel
theorem dX9_minutesOf_41 : decode cX9_minutesOf 41 = .ok (.bipush 10, 2) := by decide +kernel
theorem dX9_minutesOf_43 : decode cX9_minutesOf 43 = .ok (.ireturn, 1) := by decide +kernel
theorem dX9_orders_0 : decode cX9_orders 0 = .ok (.aload_n 0, 1) := by decide +kernel
theorem dX9_orders_1 : decode cX9_orders 1 = .ok (.iconst 0, 1) := by decide +kernel
theorem dX9_orders_2 : decode cX9_orders 2 = .ok (.putfield 1, 3) := by decide +kernel
theorem dX9_orders_5 : decode cX9_orders 5 = .ok (.aload_n 0, 1) := by decide +kernel
theorem dX9_orders_6 : decode cX9_orders 6 = .ok (.invokevirtual 189, 3) := by decide +kernel
theorem dX9_orders_9 : decode cX9_orders 9 = .ok (.aload_n 0, 1) := by decide +kernel
theorem dX9_orders_10 : decode cX9_orders 10 = .ok (.iconst 1, 1) := by decide +kernel
theorem dX9_orders_11 : decode cX9_orders 11 = .ok (.aload_n 0, 1) := by decide +kernel
theorem dX9_orders_12 : decode cX9_orders 12 = .ok (.getfield 192, 3) := by decide +kernel
theorem dX9_orders_15 : decode cX9_orders 15 = .ok (.isub, 1) := by decide +kernel
theorem dX9_orders_16 : decode cX9_orders 16 = .ok (.putfield 183, 3) := by decide +kernel
theorem dX9_orders_19 : decode cX9_orders 19 = .ok (.aload_n 0, 1) := by decide +kernel
theorem dX9_orders_20 : decode cX9_orders 20 = .ok (.iconst 0, 1) := by decide +kernel
theorem dX9_orders_21 : decode cX9_orders 21 = .ok (.putfield 186, 3) := by decide +kernel
theorem dX9_orders_24 : decode cX9_orders 24 = .ok (.aload_n 0, 1) := by decide +kernel
theorem dX9_orders_25 : decode cX9_orders 25 = .ok (.getfield 80, 3) := by decide +kernel
theorem dX9_orders_28 : decode cX9_orders 28 = .ok (.aload_n 0, 1) := by decide +kernel
theorem dX9_orders_29 : decode cX9_orders 29 = .ok (.getfield 183, 3) := by decide +kernel
theorem dX9_orders_32 : decode cX9_orders 32 = .ok (.iconst 0, 1) := by decide +kernel
theorem dX9_orders_33 : decode cX9_orders 33 = .ok (.iastore, 1) := by decide +kernel
theorem dX9_orders_34 : decode cX9_orders 34 = .ok (.aload_n 0, 1) := by decide +kernel
theorem dX9_orders_35 : decode cX9_orders 35 = .ok (.iconst 0, 1) := by decide +kernel
theorem dX9_orders_36 : decode cX9_orders 36 = .ok (.putfield 195, 3) := by decide +kernel
theorem dX9_orders_39 : decode cX9_orders 39 = .ok (.aload_n 0, 1) := by decide +kernel
theorem dX9_orders_40 : decode cX9_orders 40 = .ok (.getfield 167, 3) := by decide +kernel
theorem dX9_orders_43 : decode cX9_orders 43 = .ok (.ifCond .ne 22, 3) := by decide +kernel
theorem dX9_orders_46 : decode cX9_orders 46 = .ok (.aload_n 0, 1) := by decide +kernel
theorem dX9_orders_47 : decode cX9_orders 47 = .ok (.getfield 24, 3) := by decide +kernel
theorem dX9_orders_50 : decode cX9_orders 50 = .ok (.aload_n 0, 1) := by decide +kernel
theorem dX9_orders_51 : decode cX9_orders 51 = .ok (.getfield 164, 3) := by decide +kernel
theorem dX9_orders_54 : decode cX9_orders 54 = .ok (.iaload, 1) := by decide +kernel
theorem dX9_orders_55 : decode cX9_orders 55 = .ok (.ifCond .eq 10, 3) := by decide +kernel
theorem dX9_orders_58 : decode cX9_orders 58 = .ok (.aload_n 0, 1) := by decide +kernel
theorem dX9_orders_59 : decode cX9_orders 59 = .ok (.invokevirtual 198, 3) := by decide +kernel
theorem dX9_orders_62 : decode cX9_orders 62 = .ok (.goto (-23), 3) := by decide +kernel
theorem dX9_orders_65 : decode cX9_orders 65 = .ok (.aload_n 0, 1) := by decide +kernel
theorem dX9_orders_66 : decode cX9_orders 66 = .ok (.getfield 167, 3) := by decide +kernel
theorem dX9_orders_69 : decode cX9_orders 69 = .ok (.ifCond .le 8, 3) := by decide +kernel
theorem dX9_orders_72 : decode cX9_orders 72 = .ok (.aload_n 0, 1) := by decide +kernel
theorem dX9_orders_73 : decode cX9_orders 73 = .ok (.getfield 167, 3) := by decide +kernel
theorem dX9_orders_76 : decode cX9_orders 76 = .ok (.ireturn, 1) := by decide +kernel
theorem dX9_orders_77 : decode cX9_orders 77 = .ok (.aload_n 0, 1) := by decide +kernel
theorem dX9_orders_78 : decode cX9_orders 78 = .ok (.iconst 0, 1) := by decide +kernel
theorem dX9_orders_79 : decode cX9_orders 79 = .ok (.iconst 0, 1) := by decide +kernel
theorem dX9_orders_80 : decode cX9_orders 80 = .ok (.iconst 0, 1) := by decide +kernel
theorem dX9_orders_81 : decode cX9_orders 81 = .ok (.invokevirtual 201, 3) := by decide +kernel
theorem dX9_orders_84 : decode cX9_orders 84 = .ok (.istore_n 1, 1) := by decide +kernel
theorem dX9_orders_85 : decode cX9_orders 85 = .ok (.aload_n 0, 1) := by decide +kernel
theorem dX9_orders_86 : decode cX9_orders 86 = .ok (.aload_n 0, 1) := by decide +kernel
theorem dX9_orders_87 : decode cX9_orders 87 = .ok (.getfield 183, 3) := by decide +kernel
theorem dX9_orders_90 : decode cX9_orders 90 = .ok (.putfield 192, 3) := by decide +kernel
theorem dX9_orders_93 : decode cX9_orders 93 = .ok (.aload_n 0, 1) := by decide +kernel
theorem dX9_orders_94 : decode cX9_orders 94 = .ok (.sipush 2200, 3) := by decide +kernel
theorem dX9_orders_97 : decode cX9_orders 97 = .ok (.aload_n 0, 1) := by decide +kernel
theorem dX9_orders_98 : decode cX9_orders 98 = .ok (.getfield 192, 3) := by decide +kernel
theorem dX9_orders_101 : decode cX9_orders 101 = .ok (.imul, 1) := by decide +kernel
theorem dX9_orders_102 : decode cX9_orders 102 = .ok (.putfield 205, 3) := by decide +kernel
theorem dX9_orders_105 : decode cX9_orders 105 = .ok (.aload_n 0, 1) := by decide +kernel
theorem dX9_orders_106 : decode cX9_orders 106 = .ok (.iconst 0, 1) := by decide +kernel
theorem dX9_orders_107 : decode cX9_orders 107 = .ok (.putfield 208, 3) := by decide +kernel
theorem dX9_orders_110 : decode cX9_orders 110 = .ok (.iconst 0, 1) := by decide +kernel
theorem dX9_orders_111 : decode cX9_orders 111 = .ok (.ireturn, 1) := by decide +kernel
theorem dX9_part_0 : decode cX9_part 0 = .ok (.iconst 0, 1) := by decide +kernel
theorem dX9_part_1 : decode cX9_part 1 = .ok (.istore_n 1, 1) := by decide +kernel
theorem dX9_part_2 : decode cX9_part 2 = .ok (.iload_n 1, 1) := by decide +kernel
theorem dX9_part_3 : decode cX9_part 3 = .ok (.bipush 7, 2) := by decide +kernel
theorem dX9_part_5 : decode cX9_part 5 = .ok (.if_icmp .ge 20, 3) := by decide +kernel
theorem dX9_part_8 : decode cX9_part 8 = .ok (.aload_n 0, 1) := by decide +kernel
theorem dX9_part_9 : decode cX9_part 9 = .ok (.bipush 10, 2) := by decide +kernel
theorem dX9_part_11 : decode cX9_part 11 = .ok (.iload_n 1, 1) := by decide +kernel
theorem dX9_part_12 : decode cX9_part 12 = .ok (.iadd, 1) := by decide +kernel
theorem dX9_part_13 : decode cX9_part 13 = .ok (.invokevirtual 177, 3) := by decide +kernel
theorem dX9_part_16 : decode cX9_part 16 = .ok (.ifCond .ne 9, 3) := by decide +kernel
theorem dX9_part_19 : decode cX9_part 19 = .ok (.iinc 1 1, 3) := by decide +kernel
theorem dX9_part_22 : decode cX9_part 22 = .ok (.goto (-20), 3) := by decide +kernel
theorem dX9_part_25 : decode cX9_part 25 = .ok (.aload_n 0, 1) := by decide +kernel
theorem dX9_part_26 : decode cX9_part 26 = .ok (.getfield 167, 3) := by decide +kernel
theorem dX9_part_29 : decode cX9_part 29 = .ok (.ifCond .ne 27, 3) := by decide +kernel
theorem dX9_part_32 : decode cX9_part 32 = .ok (.aload_n 0, 1) := by decide +kernel
theorem dX9_part_33 : decode cX9_part 33 = .ok (.getfield 24, 3) := by decide +kernel
theorem dX9_part_36 : decode cX9_part 36 = .ok (.aload_n 0, 1) := by decide +kernel
theorem dX9_part_37 : decode cX9_part 37 = .ok (.getfield 164, 3) := by decide +kernel
theorem dX9_part_40 : decode cX9_part 40 = .ok (.iaload, 1) := by decide +kernel
theorem dX9_part_41 : decode cX9_part 41 = .ok (.iconst 2, 1) := by decide +kernel
theorem dX9_part_42 : decode cX9_part 42 = .ok (.if_icmp .eq 14, 3) := by decide +kernel
theorem dX9_part_45 : decode cX9_part 45 = .ok (.iload_n 1, 1) := by decide +kernel
theorem dX9_part_46 : decode cX9_part 46 = .ok (.bipush 7, 2) := by decide +kernel
theorem dX9_part_48 : decode cX9_part 48 = .ok (.if_icmp .ne 8, 3) := by decide +kernel
theorem dX9_part_51 : decode cX9_part 51 = .ok (.aload_n 0, 1) := by decide +kernel
theorem dX9_part_52 : decode cX9_part 52 = .ok (.iconst 1, 1) := by decide +kernel
theorem dX9_part_53 : decode cX9_part 53 = .ok (.invokevirtual 173, 3) := by decide +kernel
theorem dX9_part_56 : decode cX9_part 56 = .ok (.aload_n 0, 1) := by decide +kernel
theorem dX9_part_57 : decode cX9_part 57 = .ok (.getfield 167, 3) := by decide +kernel
theorem dX9_part_60 : decode cX9_part 60 = .ok (.ifCond .ne 50, 3) := by decide +kernel
theorem dX9_part_63 : decode cX9_part 63 = .ok (.aload_n 0, 1) := by decide +kernel
theorem dX9_part_64 : decode cX9_part 64 = .ok (.iload_n 1, 1) := by decide +kernel
theorem dX9_part_65 : decode cX9_part 65 = .ok (.bipush 7, 2) := by decide +kernel
theorem dX9_part_67 : decode cX9_part 67 = .ok (.if_icmp .ge 7, 3) := by decide +kernel
theorem dX9_part_70 : decode cX9_part 70 = .ok (.iconst 2, 1) := by decide +kernel
theorem dX9_part_71 : decode cX9_part 71 = .ok (.goto 4, 3) := by decide +kernel
theorem dX9_part_74 : decode cX9_part 74 = .ok (.iconst 1, 1) := by decide +kernel
theorem dX9_part_75 : decode cX9_part 75 = .ok (.iload_n 1, 1) := by decide +kernel
theorem dX9_part_76 : decode cX9_part 76 = .ok (.bipush 7, 2) := by decide +kernel
theorem dX9_part_78 : decode cX9_part 78 = .ok (.if_icmp .ge 7, 3) := by decide +kernel
theorem dX9_part_81 : decode cX9_part 81 = .ok (.iload_n 1, 1) := by decide +kernel
theorem dX9_part_82 : decode cX9_part 82 = .ok (.goto 13, 3) := by decide +kernel
theorem dX9_part_85 : decode cX9_part 85 = .ok (.aload_n 0, 1) := by decide +kernel
theorem dX9_part_86 : decode cX9_part 86 = .ok (.getfield 30, 3) := by decide +kernel
theorem dX9_part_89 : decode cX9_part 89 = .ok (.aload_n 0, 1) := by decide +kernel
theorem dX9_part_90 : decode cX9_part 90 = .ok (.getfield 164, 3) := by decide +kernel
theorem dX9_part_93 : decode cX9_part 93 = .ok (.laload, 1) := by decide +kernel
theorem dX9_part_94 : decode cX9_part 94 = .ok (.l2i, 1) := by decide +kernel
theorem dX9_part_95 : decode cX9_part 95 = .ok (.iconst 0, 1) := by decide +kernel
theorem dX9_part_96 : decode cX9_part 96 = .ok (.invokevirtual 201, 3) := by decide +kernel
theorem dX9_part_99 : decode cX9_part 99 = .ok (.istore_n 2, 1) := by decide +kernel
theorem dX9_part_100 : decode cX9_part 100 = .ok (.aload_n 0, 1) := by decide +kernel
theorem dX9_part_101 : decode cX9_part 101 = .ok (.dup, 1) := by decide +kernel
theorem dX9_part_102 : decode cX9_part 102 = .ok (.getfield 164, 3) := by decide +kernel
theorem dX9_part_105 : decode cX9_part 105 = .ok (.iconst 1, 1) := by decide +kernel
theorem dX9_part_106 : decode cX9_part 106 = .ok (.iadd, 1) := by decide +kernel
theorem dX9_part_107 : decode cX9_part 107 = .ok (.putfield 164, 3) := by decide +kernel
theorem dX9_part_110 : decode cX9_part 110 = .ok (.return_, 1) := by decide +kernel
theorem dX9_partOf_0 : decode cX9_partOf 0 = .ok (.iload_n 1, 1) := by decide +kernel
theorem dX9_partOf_1 : decode cX9_partOf 1 = .ok (.tableswitch 91 0 5 #[39, 44, 49, 70, 75, 80], 39) := by decide +kernel
theorem dX9_partOf_40 : decode cX9_partOf 40 = .ok (.aload_n 0, 1) := by decide +kernel
theorem dX9_partOf_41 : decode cX9_partOf 41 = .ok (.invokevirtual 278, 3) := by decide +kernel
theorem dX9_partOf_44 : decode cX9_partOf 44 = .ok (.ireturn, 1) := by decide +kernel
theorem dX9_partOf_45 : decode cX9_partOf 45 = .ok (.aload_n 0, 1) := by decide +kernel
theorem dX9_partOf_46 : decode cX9_partOf 46 = .ok (.invokevirtual 281, 3) := by decide +kernel
theorem dX9_partOf_49 : decode cX9_partOf 49 = .ok (.ireturn, 1) := by decide +kernel
theorem dX9_partOf_50 : decode cX9_partOf 50 = .ok (.aload_n 0, 1) := by decide +kernel
theorem dX9_partOf_51 : decode cX9_partOf 51 = .ok (.invokevirtual 281, 3) := by decide +kernel
theorem dX9_partOf_54 : decode cX9_partOf 54 = .ok (.aload_n 0, 1) := by decide +kernel
theorem dX9_partOf_55 : decode cX9_partOf 55 = .ok (.getfield 284, 3) := by decide +kernel
theorem dX9_partOf_58 : decode cX9_partOf 58 = .ok (.invokestatic 287, 3) := by decide +kernel
theorem dX9_partOf_61 : decode cX9_partOf 61 = .ok (.iconst 5, 1) := by decide +kernel
theorem dX9_partOf_62 : decode cX9_partOf 62 = .ok (.if_icmp .ge 7, 3) := by decide +kernel
theorem dX9_partOf_65 : decode cX9_partOf 65 = .ok (.iconst 1, 1) := by decide +kernel
theorem dX9_partOf_66 : decode cX9_partOf 66 = .ok (.goto 4, 3) := by decide +kernel
theorem dX9_partOf_69 : decode cX9_partOf 69 = .ok (.iconst 0, 1) := by decide +kernel
theorem dX9_partOf_70 : decode cX9_partOf 70 = .ok (.ireturn, 1) := by decide +kernel
theorem dX9_partOf_71 : decode cX9_partOf 71 = .ok (.aload_n 0, 1) := by decide +kernel
theorem dX9_partOf_72 : decode cX9_partOf 72 = .ok (.getfield 290, 3) := by decide +kernel
theorem dX9_partOf_75 : decode cX9_partOf 75 = .ok (.ireturn, 1) := by decide +kernel
theorem dX9_partOf_76 : decode cX9_partOf 76 = .ok (.aload_n 0, 1) := by decide +kernel
theorem dX9_partOf_77 : decode cX9_partOf 77 = .ok (.getfield 284, 3) := by decide +kernel
theorem dX9_partOf_80 : decode cX9_partOf 80 = .ok (.ireturn, 1) := by decide +kernel
theorem dX9_partOf_81 : decode cX9_partOf 81 = .ok (.aload_n 0, 1) := by decide +kernel
theorem dX9_partOf_82 : decode cX9_partOf 82 = .ok (.getfield 242, 3) := by decide +kernel
theorem dX9_partOf_85 : decode cX9_partOf 85 = .ok (.bipush 60, 2) := by decide +kernel
theorem dX9_partOf_87 : decode cX9_partOf 87 = .ok (.idiv, 1) := by decide +kernel
theorem dX9_partOf_88 : decode cX9_partOf 88 = .ok (.bipush 24, 2) := by decide +kernel
theorem dX9_partOf_90 : decode cX9_partOf 90 = .ok (.irem, 1) := by decide +kernel
theorem dX9_partOf_91 : decode cX9_partOf 91 = .ok (.ireturn, 1) := by decide +kernel
theorem dX9_partOf_92 : decode cX9_partOf 92 = .ok (.aload_n 0, 1) := by decide +kernel
theorem dX9_partOf_93 : decode cX9_partOf 93 = .ok (.invokevirtual 293, 3) := by decide +kernel
theorem dX9_partOf_96 : decode cX9_partOf 96 = .ok (.ireturn, 1) := by decide +kernel
theorem dX9_plan_0 : decode cX9_plan 0 = .ok (.aload_n 0, 1) := by decide +kernel
theorem dX9_plan_1 : decode cX9_plan 1 = .ok (.iconst 0, 1) := by decide +kernel
theorem dX9_plan_2 : decode cX9_plan 2 = .ok (.putfield 1, 3) := by decide +kernel
theorem dX9_plan_5 : decode cX9_plan 5 = .ok (.iload_n 1, 1) := by decide +kernel
theorem dX9_plan_6 : decode cX9_plan 6 = .ok (.bipush (-24), 2) := by decide +kernel
theorem dX9_plan_8 : decode cX9_plan 8 = .ok (.if_icmp .lt 21, 3) := by decide +kernel
theorem dX9_plan_11 : decode cX9_plan 11 = .ok (.iload_n 1, 1) := by decide +kernel
theorem dX9_plan_12 : decode cX9_plan 12 = .ok (.bipush 24, 2) := by decide +kernel
theorem dX9_plan_14 : decode cX9_plan 14 = .ok (.if_icmp .gt 15, 3) := by decide +kernel
theorem dX9_plan_17 : decode cX9_plan 17 = .ok (.iload_n 2, 1) := by decide +kernel
theorem dX9_plan_18 : decode cX9_plan 18 = .ok (.bipush (-24), 2) := by decide +kernel
theorem dX9_plan_20 : decode cX9_plan 20 = .ok (.if_icmp .lt 9, 3) := by decide +kernel
theorem dX9_plan_23 : decode cX9_plan 23 = .ok (.iload_n 2, 1) := by decide +kernel
theorem dX9_plan_24 : decode cX9_plan 24 = .ok (.bipush 24, 2) := by decide +kernel
theorem dX9_plan_26 : decode cX9_plan 26 = .ok (.if_icmp .le 5, 3) := by decide +kernel
theorem dX9_plan_29 : decode cX9_plan 29 = .ok (.iconst (-1), 1) := by decide +kernel
theorem dX9_plan_30 : decode cX9_plan 30 = .ok (.ireturn, 1) := by decide +kernel
theorem dX9_plan_31 : decode cX9_plan 31 = .ok (.bipush 49, 2) := by decide +kernel
theorem dX9_plan_33 : decode cX9_plan 33 = .ok (.iload_n 2, 1) := by decide +kernel
theorem dX9_plan_34 : decode cX9_plan 34 = .ok (.bipush 24, 2) := by decide +kernel
theorem dX9_plan_36 : decode cX9_plan 36 = .ok (.iadd, 1) := by decide +kernel
theorem dX9_plan_37 : decode cX9_plan 37 = .ok (.imul, 1) := by decide +kernel
theorem dX9_plan_38 : decode cX9_plan 38 = .ok (.iload_n 1, 1) := by decide +kernel
theorem dX9_plan_39 : decode cX9_plan 39 = .ok (.iadd, 1) := by decide +kernel
theorem dX9_plan_40 : decode cX9_plan 40 = .ok (.bipush 24, 2) := by decide +kernel
theorem dX9_plan_42 : decode cX9_plan 42 = .ok (.iadd, 1) := by decide +kernel
theorem dX9_plan_43 : decode cX9_plan 43 = .ok (.istore_n 3, 1) := by decide +kernel
theorem dX9_plan_44 : decode cX9_plan 44 = .ok (.iconst 0, 1) := by decide +kernel
theorem dX9_plan_45 : decode cX9_plan 45 = .ok (.istore 4, 2) := by decide +kernel
theorem dX9_plan_47 : decode cX9_plan 47 = .ok (.iload 4, 2) := by decide +kernel
theorem dX9_plan_49 : decode cX9_plan 49 = .ok (.sipush 21609, 3) := by decide +kernel
theorem dX9_plan_52 : decode cX9_plan 52 = .ok (.if_icmp .ge 17, 3) := by decide +kernel
theorem dX9_plan_55 : decode cX9_plan 55 = .ok (.aload_n 0, 1) := by decide +kernel
theorem dX9_plan_56 : decode cX9_plan 56 = .ok (.getfield 128, 3) := by decide +kernel
theorem dX9_plan_59 : decode cX9_plan 59 = .ok (.iload 4, 2) := by decide +kernel
theorem dX9_plan_61 : decode cX9_plan 61 = .ok (.iconst 0, 1) := by decide +kernel
theorem dX9_plan_62 : decode cX9_plan 62 = .ok (.bastore, 1) := by decide +kernel
theorem dX9_plan_63 : decode cX9_plan 63 = .ok (.iinc 4 1, 3) := by decide +kernel
theorem dX9_plan_66 : decode cX9_plan 66 = .ok (.goto (-19), 3) := by decide +kernel
theorem dX9_plan_69 : decode cX9_plan 69 = .ok (.sipush 1200, 3) := by decide +kernel
theorem dX9_plan_72 : decode cX9_plan 72 = .ok (.istore 4, 2) := by decide +kernel
theorem dX9_plan_74 : decode cX9_plan 74 = .ok (.aload_n 0, 1) := by decide +kernel
theorem dX9_plan_75 : decode cX9_plan 75 = .ok (.getfield 128, 3) := by decide +kernel
theorem dX9_plan_78 : decode cX9_plan 78 = .ok (.iload 4, 2) := by decide +kernel
theorem dX9_plan_80 : decode cX9_plan 80 = .ok (.iconst 1, 1) := by decide +kernel
theorem dX9_plan_81 : decode cX9_plan 81 = .ok (.bastore, 1) := by decide +kernel
theorem dX9_plan_82 : decode cX9_plan 82 = .ok (.aload_n 0, 1) := by decide +kernel
theorem dX9_plan_83 : decode cX9_plan 83 = .ok (.iconst 0, 1) := by decide +kernel
theorem dX9_plan_84 : decode cX9_plan 84 = .ok (.putfield 362, 3) := by decide +kernel
theorem dX9_plan_87 : decode cX9_plan 87 = .ok (.iconst 0, 1) := by decide +kernel
theorem dX9_plan_88 : decode cX9_plan 88 = .ok (.istore 5, 2) := by decide +kernel
theorem dX9_plan_90 : decode cX9_plan 90 = .ok (.iload 5, 2) := by decide +kernel
theorem dX9_plan_92 : decode cX9_plan 92 = .ok (.bipush 8, 2) := by decide +kernel
theorem dX9_plan_94 : decode cX9_plan 94 = .ok (.if_icmp .ge 31, 3) := by decide +kernel
theorem dX9_plan_97 : decode cX9_plan 97 = .ok (.aload_n 0, 1) := by decide +kernel
theorem dX9_plan_98 : decode cX9_plan 98 = .ok (.getfield 128, 3) := by decide +kernel
theorem dX9_plan_101 : decode cX9_plan 101 = .ok (.sipush 2401, 3) := by decide +kernel
theorem dX9_plan_104 : decode cX9_plan 104 = .ok (.iload 5, 2) := by decide +kernel
theorem dX9_plan_106 : decode cX9_plan 106 = .ok (.imul, 1) := by decide +kernel
theorem dX9_plan_107 : decode cX9_plan 107 = .ok (.iload_n 3, 1) := by decide +kernel
theorem dX9_plan_108 : decode cX9_plan 108 = .ok (.iadd, 1) := by decide +kernel
theorem dX9_plan_109 : decode cX9_plan 109 = .ok (.baload, 1) := by decide +kernel
theorem dX9_plan_110 : decode cX9_plan 110 = .ok (.ifCond .ne 15, 3) := by decide +kernel
theorem dX9_plan_113 : decode cX9_plan 113 = .ok (.aload_n 0, 1) := by decide +kernel
theorem dX9_plan_114 : decode cX9_plan 114 = .ok (.iload 5, 2) := by decide +kernel
theorem dX9_plan_116 : decode cX9_plan 116 = .ok (.invokevirtual 365, 3) := by decide +kernel
theorem dX9_plan_119 : decode cX9_plan 119 = .ok (.iinc 5 1, 3) := by decide +kernel
theorem dX9_plan_122 : decode cX9_plan 122 = .ok (.goto (-32), 3) := by decide +kernel
theorem dX9_plan_125 : decode cX9_plan 125 = .ok (.aload_n 0, 1) := by decide +kernel
theorem dX9_plan_126 : decode cX9_plan 126 = .ok (.getfield 128, 3) := by decide +kernel
theorem dX9_plan_129 : decode cX9_plan 129 = .ok (.sipush 2401, 3) := by decide +kernel
theorem dX9_plan_132 : decode cX9_plan 132 = .ok (.iload 5, 2) := by decide +kernel
theorem dX9_plan_134 : decode cX9_plan 134 = .ok (.imul, 1) := by decide +kernel
theorem dX9_plan_135 : decode cX9_plan 135 = .ok (.iload_n 3, 1) := by decide +kernel
theorem dX9_plan_136 : decode cX9_plan 136 = .ok (.iadd, 1) := by decide +kernel
theorem dX9_plan_137 : decode cX9_plan 137 = .ok (.baload, 1) := by decide +kernel
theorem dX9_plan_138 : decode cX9_plan 138 = .ok (.ifCond .ne 5, 3) := by decide +kernel
theorem dX9_plan_141 : decode cX9_plan 141 = .ok (.iconst (-1), 1) := by decide +kernel
theorem dX9_plan_142 : decode cX9_plan 142 = .ok (.ireturn, 1) := by decide +kernel
theorem dX9_plan_143 : decode cX9_plan 143 = .ok (.iconst 0, 1) := by decide +kernel
theorem dX9_plan_144 : decode cX9_plan 144 = .ok (.istore 6, 2) := by decide +kernel
theorem dX9_plan_146 : decode cX9_plan 146 = .ok (.iload 6, 2) := by decide +kernel
theorem dX9_plan_148 : decode cX9_plan 148 = .ok (.sipush 2401, 3) := by decide +kernel
theorem dX9_plan_151 : decode cX9_plan 151 = .ok (.if_icmp .ge 34, 3) := by decide +kernel
theorem dX9_plan_154 : decode cX9_plan 154 = .ok (.aload_n 0, 1) := by decide +kernel
theorem dX9_plan_155 : decode cX9_plan 155 = .ok (.getfield 132, 3) := by decide +kernel
theorem dX9_plan_158 : decode cX9_plan 158 = .ok (.sipush 2401, 3) := by decide +kernel
theorem dX9_plan_161 : decode cX9_plan 161 = .ok (.iload 5, 2) := by decide +kernel
theorem dX9_plan_163 : decode cX9_plan 163 = .ok (.imul, 1) := by decide +kernel
theorem dX9_plan_164 : decode cX9_plan 164 = .ok (.iload 6, 2) := by decide +kernel
theorem dX9_plan_166 : decode cX9_plan 166 = .ok (.iadd, 1) := by decide +kernel
theorem dX9_plan_167 : decode cX9_plan 167 = .ok (.iload 6, 2) := by decide +kernel
theorem dX9_plan_169 : decode cX9_plan 169 = .ok (.iload_n 3, 1) := by decide +kernel
theorem dX9_plan_170 : decode cX9_plan 170 = .ok (.if_icmp .ne 7, 3) := by decide +kernel
theorem dX9_plan_173 : decode cX9_plan 173 = .ok (.iconst 1, 1) := by decide +kernel
theorem dX9_plan_174 : decode cX9_plan 174 = .ok (.goto 4, 3) := by decide +kernel
theorem dX9_plan_177 : decode cX9_plan 177 = .ok (.iconst 0, 1) := by decide +kernel
theorem dX9_plan_178 : decode cX9_plan 178 = .ok (.bastore, 1) := by decide +kernel
theorem dX9_plan_179 : decode cX9_plan 179 = .ok (.iinc 6 1, 3) := by decide +kernel
theorem dX9_plan_182 : decode cX9_plan 182 = .ok (.goto (-36), 3) := by decide +kernel
theorem dX9_plan_185 : decode cX9_plan 185 = .ok (.iload 5, 2) := by decide +kernel
theorem dX9_plan_187 : decode cX9_plan 187 = .ok (.iconst 1, 1) := by decide +kernel
theorem dX9_plan_188 : decode cX9_plan 188 = .ok (.isub, 1) := by decide +kernel
theorem dX9_plan_189 : decode cX9_plan 189 = .ok (.istore 6, 2) := by decide +kernel
theorem dX9_plan_191 : decode cX9_plan 191 = .ok (.iload 6, 2) := by decide +kernel
theorem dX9_plan_193 : decode cX9_plan 193 = .ok (.ifCond .lt 15, 3) := by decide +kernel
theorem dX9_plan_196 : decode cX9_plan 196 = .ok (.aload_n 0, 1) := by decide +kernel
theorem dX9_plan_197 : decode cX9_plan 197 = .ok (.iload 6, 2) := by decide +kernel
theorem dX9_plan_199 : decode cX9_plan 199 = .ok (.invokevirtual 368, 3) := by decide +kernel
theorem dX9_plan_202 : decode cX9_plan 202 = .ok (.iinc 6 (-1), 3) := by decide +kernel
theorem dX9_plan_205 : decode cX9_plan 205 = .ok (.goto (-14), 3) := by decide +kernel
theorem dX9_plan_208 : decode cX9_plan 208 = .ok (.iload 4, 2) := by decide +kernel
theorem dX9_plan_210 : decode cX9_plan 210 = .ok (.istore 6, 2) := by decide +kernel
theorem dX9_plan_212 : decode cX9_plan 212 = .ok (.iconst 0, 1) := by decide +kernel
theorem dX9_plan_213 : decode cX9_plan 213 = .ok (.istore 7, 2) := by decide +kernel
theorem dX9_plan_215 : decode cX9_plan 215 = .ok (.iload 7, 2) := by decide +kernel
theorem dX9_plan_217 : decode cX9_plan 217 = .ok (.iload 5, 2) := by decide +kernel
theorem dX9_plan_219 : decode cX9_plan 219 = .ok (.if_icmp .ge 79, 3) := by decide +kernel
theorem dX9_plan_222 : decode cX9_plan 222 = .ok (.iconst 0, 1) := by decide +kernel
theorem dX9_plan_223 : decode cX9_plan 223 = .ok (.istore 8, 2) := by decide +kernel
theorem dX9_plan_225 : decode cX9_plan 225 = .ok (.aload_n 0, 1) := by decide +kernel
theorem dX9_plan_226 : decode cX9_plan 226 = .ok (.iload 7, 2) := by decide +kernel
theorem dX9_plan_228 : decode cX9_plan 228 = .ok (.iload 6, 2) := by decide +kernel
theorem dX9_plan_230 : decode cX9_plan 230 = .ok (.iload 8, 2) := by decide +kernel
theorem dX9_plan_232 : decode cX9_plan 232 = .ok (.invokevirtual 359, 3) := by decide +kernel
theorem dX9_plan_235 : decode cX9_plan 235 = .ok (.ifCond .lt 30, 3) := by decide +kernel
theorem dX9_plan_238 : decode cX9_plan 238 = .ok (.aload_n 0, 1) := by decide +kernel
theorem dX9_plan_239 : decode cX9_plan 239 = .ok (.getfield 132, 3) := by decide +kernel
theorem dX9_plan_242 : decode cX9_plan 242 = .ok (.sipush 2401, 3) := by decide +kernel
theorem dX9_plan_245 : decode cX9_plan 245 = .ok (.iload 7, 2) := by decide +kernel
theorem dX9_plan_247 : decode cX9_plan 247 = .ok (.iconst 1, 1) := by decide +kernel
theorem dX9_plan_248 : decode cX9_plan 248 = .ok (.iadd, 1) := by decide +kernel
theorem dX9_plan_249 : decode cX9_plan 249 = .ok (.imul, 1) := by decide +kernel
theorem dX9_plan_250 : decode cX9_plan 250 = .ok (.aload_n 0, 1) := by decide +kernel
theorem dX9_plan_251 : decode cX9_plan 251 = .ok (.iload 7, 2) := by decide +kernel
theorem dX9_plan_253 : decode cX9_plan 253 = .ok (.iload 6, 2) := by decide +kernel
theorem dX9_plan_255 : decode cX9_plan 255 = .ok (.iload 8, 2) := by decide +kernel
theorem dX9_plan_257 : decode cX9_plan 257 = .ok (.invokevirtual 359, 3) := by decide +kernel
theorem dX9_plan_260 : decode cX9_plan 260 = .ok (.iadd, 1) := by decide +kernel
theorem dX9_plan_261 : decode cX9_plan 261 = .ok (.baload, 1) := by decide +kernel
theorem dX9_plan_262 : decode cX9_plan 262 = .ok (.ifCond .ne 9, 3) := by decide +kernel
theorem dX9_plan_265 : decode cX9_plan 265 = .ok (.iinc 8 1, 3) := by decide +kernel
theorem dX9_plan_268 : decode cX9_plan 268 = .ok (.goto (-43), 3) := by decide +kernel
theorem dX9_plan_271 : decode cX9_plan 271 = .ok (.aload_n 0, 1) := by decide +kernel
theorem dX9_plan_272 : decode cX9_plan 272 = .ok (.getfield 135, 3) := by decide +kernel
theorem dX9_plan_275 : decode cX9_plan 275 = .ok (.iload 7, 2) := by decide +kernel
theorem dX9_plan_277 : decode cX9_plan 277 = .ok (.iload 8, 2) := by decide +kernel
theorem dX9_plan_279 : decode cX9_plan 279 = .ok (.iastore, 1) := by decide +kernel
theorem dX9_plan_280 : decode cX9_plan 280 = .ok (.aload_n 0, 1) := by decide +kernel
theorem dX9_plan_281 : decode cX9_plan 281 = .ok (.iload 7, 2) := by decide +kernel
theorem dX9_plan_283 : decode cX9_plan 283 = .ok (.iload 6, 2) := by decide +kernel
theorem dX9_plan_285 : decode cX9_plan 285 = .ok (.iload 8, 2) := by decide +kernel
theorem dX9_plan_287 : decode cX9_plan 287 = .ok (.invokevirtual 359, 3) := by decide +kernel
theorem dX9_plan_290 : decode cX9_plan 290 = .ok (.istore 6, 2) := by decide +kernel
theorem dX9_plan_292 : decode cX9_plan 292 = .ok (.iinc 7 1, 3) := by decide +kernel
theorem dX9_plan_295 : decode cX9_plan 295 = .ok (.goto (-80), 3) := by decide +kernel
theorem dX9_plan_298 : decode cX9_plan 298 = .ok (.aload_n 0, 1) := by decide +kernel
theorem dX9_plan_299 : decode cX9_plan 299 = .ok (.iload 5, 2) := by decide +kernel
theorem dX9_plan_301 : decode cX9_plan 301 = .ok (.putfield 362, 3) := by decide +kernel
theorem dX9_plan_304 : decode cX9_plan 304 = .ok (.iload 5, 2) := by decide +kernel
theorem dX9_plan_306 : decode cX9_plan 306 = .ok (.ireturn, 1) := by decide +kernel
theorem dX9_point_0 : decode cX9_point 0 = .ok (.aload_n 0, 1) := by decide +kernel
theorem dX9_point_1 : decode cX9_point 1 = .ok (.invokevirtual 245, 3) := by decide +kernel
theorem dX9_point_4 : decode cX9_point 4 = .ok (.istore_n 1, 1) := by decide +kernel
theorem dX9_point_5 : decode cX9_point 5 = .ok (.iload_n 1, 1) := by decide +kernel
theorem dX9_point_6 : decode cX9_point 6 = .ok (.ifCond .ge 7, 3) := by decide +kernel
theorem dX9_point_9 : decode cX9_point 9 = .ok (.iconst 0, 1) := by decide +kernel
theorem dX9_point_10 : decode cX9_point 10 = .ok (.goto 9, 3) := by decide +kernel
theorem dX9_point_13 : decode cX9_point 13 = .ok (.aload_n 0, 1) := by decide +kernel
theorem dX9_point_14 : decode cX9_point 14 = .ok (.getfield 113, 3) := by decide +kernel
theorem dX9_point_17 : decode cX9_point 17 = .ok (.iload_n 1, 1) := by decide +kernel
theorem dX9_point_18 : decode cX9_point 18 = .ok (.iaload, 1) := by decide +kernel
theorem dX9_point_19 : decode cX9_point 19 = .ok (.ireturn, 1) := by decide +kernel
theorem dX9_rank_0 : decode cX9_rank 0 = .ok (.iload_n 0, 1) := by decide +kernel
theorem dX9_rank_1 : decode cX9_rank 1 = .ok (.invokestatic 141, 3) := by decide +kernel
theorem dX9_rank_4 : decode cX9_rank 4 = .ok (.ifCond .eq 10, 3) := by decide +kernel
theorem dX9_rank_7 : decode cX9_rank 7 = .ok (.iload_n 0, 1) := by decide +kernel
theorem dX9_rank_8 : decode cX9_rank 8 = .ok (.bipush 96, 2) := by decide +kernel
theorem dX9_rank_10 : decode cX9_rank 10 = .ok (.isub, 1) := by decide +kernel
theorem dX9_rank_11 : decode cX9_rank 11 = .ok (.goto 7, 3) := by decide +kernel
theorem dX9_rank_14 : decode cX9_rank 14 = .ok (.iload_n 0, 1) := by decide +kernel
theorem dX9_rank_15 : decode cX9_rank 15 = .ok (.bipush 21, 2) := by decide +kernel
theorem dX9_rank_17 : decode cX9_rank 17 = .ok (.isub, 1) := by decide +kernel
theorem dX9_rank_18 : decode cX9_rank 18 = .ok (.ireturn, 1) := by decide +kernel
theorem dX9_reckons_0 : decode cX9_reckons 0 = .ok (.iload_n 1, 1) := by decide +kernel
theorem dX9_reckons_1 : decode cX9_reckons 1 = .ok (.iconst 1, 1) := by decide +kernel
theorem dX9_reckons_2 : decode cX9_reckons 2 = .ok (.if_icmp .eq 8, 3) := by decide +kernel
theorem dX9_reckons_5 : decode cX9_reckons 5 = .ok (.iload_n 1, 1) := by decide +kernel
theorem dX9_reckons_6 : decode cX9_reckons 6 = .ok (.iconst 2, 1) := by decide +kernel
theorem dX9_reckons_7 : decode cX9_reckons 7 = .ok (.if_icmp .ne 37, 3) := by decide +kernel
theorem dX9_reckons_10 : decode cX9_reckons 10 = .ok (.aload_n 0, 1) := by decide +kernel
theorem dX9_reckons_11 : decode cX9_reckons 11 = .ok (.getfield 119, 3) := by decide +kernel
theorem dX9_reckons_14 : decode cX9_reckons 14 = .ok (.aload_n 0, 1) := by decide +kernel
theorem dX9_reckons_15 : decode cX9_reckons 15 = .ok (.getfield 311, 3) := by decide +kernel
theorem dX9_reckons_18 : decode cX9_reckons 18 = .ok (.iload_n 1, 1) := by decide +kernel
theorem dX9_reckons_19 : decode cX9_reckons 19 = .ok (.iconst 1, 1) := by decide +kernel
theorem dX9_reckons_20 : decode cX9_reckons 20 = .ok (.if_icmp .ne 7, 3) := by decide +kernel
theorem dX9_reckons_23 : decode cX9_reckons 23 = .ok (.iload_n 2, 1) := by decide +kernel
theorem dX9_reckons_24 : decode cX9_reckons 24 = .ok (.goto 8, 3) := by decide +kernel
theorem dX9_reckons_27 : decode cX9_reckons 27 = .ok (.aload_n 0, 1) := by decide +kernel
theorem dX9_reckons_28 : decode cX9_reckons 28 = .ok (.iload_n 2, 1) := by decide +kernel
theorem dX9_reckons_29 : decode cX9_reckons 29 = .ok (.invokevirtual 314, 3) := by decide +kernel
theorem dX9_reckons_32 : decode cX9_reckons 32 = .ok (.iastore, 1) := by decide +kernel
theorem dX9_reckons_33 : decode cX9_reckons 33 = .ok (.aload_n 0, 1) := by decide +kernel
theorem dX9_reckons_34 : decode cX9_reckons 34 = .ok (.dup, 1) := by decide +kernel
theorem dX9_reckons_35 : decode cX9_reckons 35 = .ok (.getfield 311, 3) := by decide +kernel
theorem dX9_reckons_38 : decode cX9_reckons 38 = .ok (.iconst 1, 1) := by decide +kernel
theorem dX9_reckons_39 : decode cX9_reckons 39 = .ok (.iadd, 1) := by decide +kernel
theorem dX9_reckons_40 : decode cX9_reckons 40 = .ok (.putfield 311, 3) := by decide +kernel
theorem dX9_reckons_43 : decode cX9_reckons 43 = .ok (.return_, 1) := by decide +kernel
theorem dX9_reckons_44 : decode cX9_reckons 44 = .ok (.aload_n 0, 1) := by decide +kernel
theorem dX9_reckons_45 : decode cX9_reckons 45 = .ok (.dup, 1) := by decide +kernel
theorem dX9_reckons_46 : decode cX9_reckons 46 = .ok (.getfield 311, 3) := by decide +kernel
theorem dX9_reckons_49 : decode cX9_reckons 49 = .ok (.iconst 1, 1) := by decide +kernel
theorem dX9_reckons_50 : decode cX9_reckons 50 = .ok (.isub, 1) := by decide +kernel
theorem dX9_reckons_51 : decode cX9_reckons 51 = .ok (.putfield 311, 3) := by decide +kernel
theorem dX9_reckons_54 : decode cX9_reckons 54 = .ok (.aload_n 0, 1) := by decide +kernel
theorem dX9_reckons_55 : decode cX9_reckons 55 = .ok (.getfield 119, 3) := by decide +kernel
theorem dX9_reckons_58 : decode cX9_reckons 58 = .ok (.aload_n 0, 1) := by decide +kernel
theorem dX9_reckons_59 : decode cX9_reckons 59 = .ok (.getfield 311, 3) := by decide +kernel
theorem dX9_reckons_62 : decode cX9_reckons 62 = .ok (.iaload, 1) := by decide +kernel
theorem dX9_reckons_63 : decode cX9_reckons 63 = .ok (.istore_n 3, 1) := by decide +kernel
theorem dX9_reckons_64 : decode cX9_reckons 64 = .ok (.aload_n 0, 1) := by decide +kernel
theorem dX9_reckons_65 : decode cX9_reckons 65 = .ok (.getfield 119, 3) := by decide +kernel
theorem dX9_reckons_68 : decode cX9_reckons 68 = .ok (.aload_n 0, 1) := by decide +kernel
theorem dX9_reckons_69 : decode cX9_reckons 69 = .ok (.getfield 311, 3) := by decide +kernel
theorem dX9_reckons_72 : decode cX9_reckons 72 = .ok (.iconst 1, 1) := by decide +kernel
theorem dX9_reckons_73 : decode cX9_reckons 73 = .ok (.isub, 1) := by decide +kernel
theorem dX9_reckons_74 : decode cX9_reckons 74 = .ok (.iaload, 1) := by decide +kernel
theorem dX9_reckons_75 : decode cX9_reckons 75 = .ok (.istore 4, 2) := by decide +kernel
theorem dX9_reckons_77 : decode cX9_reckons 77 = .ok (.aload_n 0, 1) := by decide +kernel
theorem dX9_reckons_78 : decode cX9_reckons 78 = .ok (.getfield 119, 3) := by decide +kernel
theorem dX9_reckons_81 : decode cX9_reckons 81 = .ok (.aload_n 0, 1) := by decide +kernel
theorem dX9_reckons_82 : decode cX9_reckons 82 = .ok (.getfield 311, 3) := by decide +kernel
theorem dX9_reckons_85 : decode cX9_reckons 85 = .ok (.iconst 1, 1) := by decide +kernel
theorem dX9_reckons_86 : decode cX9_reckons 86 = .ok (.isub, 1) := by decide +kernel
theorem dX9_reckons_87 : decode cX9_reckons 87 = .ok (.iload_n 1, 1) := by decide +kernel
theorem dX9_reckons_88 : decode cX9_reckons 88 = .ok (.iconst 3, 1) := by decide +kernel
theorem dX9_reckons_89 : decode cX9_reckons 89 = .ok (.if_icmp .ne 10, 3) := by decide +kernel
theorem dX9_reckons_92 : decode cX9_reckons 92 = .ok (.iload 4, 2) := by decide +kernel
theorem dX9_reckons_94 : decode cX9_reckons 94 = .ok (.iload_n 3, 1) := by decide +kernel
theorem dX9_reckons_95 : decode cX9_reckons 95 = .ok (.iadd, 1) := by decide +kernel
theorem dX9_reckons_96 : decode cX9_reckons 96 = .ok (.goto 45, 3) := by decide +kernel
theorem dX9_reckons_99 : decode cX9_reckons 99 = .ok (.iload_n 1, 1) := by decide +kernel
theorem dX9_reckons_100 : decode cX9_reckons 100 = .ok (.iconst 4, 1) := by decide +kernel
theorem dX9_reckons_101 : decode cX9_reckons 101 = .ok (.if_icmp .ne 10, 3) := by decide +kernel
theorem dX9_reckons_104 : decode cX9_reckons 104 = .ok (.iload 4, 2) := by decide +kernel
theorem dX9_reckons_106 : decode cX9_reckons 106 = .ok (.iload_n 3, 1) := by decide +kernel
theorem dX9_reckons_107 : decode cX9_reckons 107 = .ok (.isub, 1) := by decide +kernel
theorem dX9_reckons_108 : decode cX9_reckons 108 = .ok (.goto 33, 3) := by decide +kernel
theorem dX9_reckons_111 : decode cX9_reckons 111 = .ok (.iload_n 1, 1) := by decide +kernel
theorem dX9_reckons_112 : decode cX9_reckons 112 = .ok (.iconst 5, 1) := by decide +kernel
theorem dX9_reckons_113 : decode cX9_reckons 113 = .ok (.if_icmp .ne 17, 3) := by decide +kernel
theorem dX9_reckons_116 : decode cX9_reckons 116 = .ok (.iload 4, 2) := by decide +kernel
theorem dX9_reckons_118 : decode cX9_reckons 118 = .ok (.iload_n 3, 1) := by decide +kernel
theorem dX9_reckons_119 : decode cX9_reckons 119 = .ok (.if_icmp .ge 7, 3) := by decide +kernel
theorem dX9_reckons_122 : decode cX9_reckons 122 = .ok (.iconst 1, 1) := by decide +kernel
theorem dX9_reckons_123 : decode cX9_reckons 123 = .ok (.goto 18, 3) := by decide +kernel
theorem dX9_reckons_126 : decode cX9_reckons 126 = .ok (.iconst 0, 1) := by decide +kernel
theorem dX9_reckons_127 : decode cX9_reckons 127 = .ok (.goto 14, 3) := by decide +kernel
theorem dX9_reckons_130 : decode cX9_reckons 130 = .ok (.iload 4, 2) := by decide +kernel
theorem dX9_reckons_132 : decode cX9_reckons 132 = .ok (.iload_n 3, 1) := by decide +kernel
theorem dX9_reckons_133 : decode cX9_reckons 133 = .ok (.if_icmp .ne 7, 3) := by decide +kernel
theorem dX9_reckons_136 : decode cX9_reckons 136 = .ok (.iconst 1, 1) := by decide +kernel
theorem dX9_reckons_137 : decode cX9_reckons 137 = .ok (.goto 4, 3) := by decide +kernel
theorem dX9_reckons_140 : decode cX9_reckons 140 = .ok (.iconst 0, 1) := by decide +kernel
theorem dX9_reckons_141 : decode cX9_reckons 141 = .ok (.iastore, 1) := by decide +kernel
theorem dX9_reckons_142 : decode cX9_reckons 142 = .ok (.return_, 1) := by decide +kernel
theorem dX9_rope_0 : decode cX9_rope 0 = .ok (.aload_n 0, 1) := by decide +kernel
theorem dX9_rope_1 : decode cX9_rope 1 = .ok (.iconst 0, 1) := by decide +kernel
theorem dX9_rope_2 : decode cX9_rope 2 = .ok (.putfield 1, 3) := by decide +kernel
theorem dX9_rope_5 : decode cX9_rope 5 = .ok (.iload_n 1, 1) := by decide +kernel
theorem dX9_rope_6 : decode cX9_rope 6 = .ok (.ifCond .lt 18, 3) := by decide +kernel
theorem dX9_rope_9 : decode cX9_rope 9 = .ok (.iload_n 1, 1) := by decide +kernel
theorem dX9_rope_10 : decode cX9_rope 10 = .ok (.bipush 17, 2) := by decide +kernel
theorem dX9_rope_12 : decode cX9_rope 12 = .ok (.if_icmp .gt 12, 3) := by decide +kernel
theorem dX9_rope_15 : decode cX9_rope 15 = .ok (.iload_n 2, 1) := by decide +kernel
theorem dX9_rope_16 : decode cX9_rope 16 = .ok (.ifCond .lt 8, 3) := by decide +kernel
theorem dX9_rope_19 : decode cX9_rope 19 = .ok (.iload_n 2, 1) := by decide +kernel
theorem dX9_rope_20 : decode cX9_rope 20 = .ok (.iconst 2, 1) := by decide +kernel
theorem dX9_rope_21 : decode cX9_rope 21 = .ok (.if_icmp .le 5, 3) := by decide +kernel
theorem dX9_rope_24 : decode cX9_rope 24 = .ok (.iconst (-1), 1) := by decide +kernel
theorem dX9_rope_25 : decode cX9_rope 25 = .ok (.ireturn, 1) := by decide +kernel
theorem dX9_rope_26 : decode cX9_rope 26 = .ok (.iload_n 2, 1) := by decide +kernel
theorem dX9_rope_27 : decode cX9_rope 27 = .ok (.ifCond .ne 12, 3) := by decide +kernel
theorem dX9_rope_30 : decode cX9_rope 30 = .ok (.aload_n 0, 1) := by decide +kernel
theorem dX9_rope_31 : decode cX9_rope 31 = .ok (.getfield 86, 3) := by decide +kernel
theorem dX9_rope_34 : decode cX9_rope 34 = .ok (.iload_n 1, 1) := by decide +kernel
theorem dX9_rope_35 : decode cX9_rope 35 = .ok (.iaload, 1) := by decide +kernel
theorem dX9_rope_36 : decode cX9_rope 36 = .ok (.goto 31, 3) := by decide +kernel
theorem dX9_rope_39 : decode cX9_rope 39 = .ok (.iload_n 2, 1) := by decide +kernel
theorem dX9_rope_40 : decode cX9_rope 40 = .ok (.iconst 1, 1) := by decide +kernel
theorem dX9_rope_41 : decode cX9_rope 41 = .ok (.if_icmp .ne 12, 3) := by decide +kernel
theorem dX9_rope_44 : decode cX9_rope 44 = .ok (.aload_n 0, 1) := by decide +kernel
theorem dX9_rope_45 : decode cX9_rope 45 = .ok (.getfield 89, 3) := by decide +kernel
theorem dX9_rope_48 : decode cX9_rope 48 = .ok (.iload_n 1, 1) := by decide +kernel
theorem dX9_rope_49 : decode cX9_rope 49 = .ok (.iaload, 1) := by decide +kernel
theorem dX9_rope_50 : decode cX9_rope 50 = .ok (.goto 17, 3) := by decide +kernel
theorem dX9_rope_53 : decode cX9_rope 53 = .ok (.aload_n 0, 1) := by decide +kernel
theorem dX9_rope_54 : decode cX9_rope 54 = .ok (.iconst 3, 1) := by decide +kernel
theorem dX9_rope_55 : decode cX9_rope 55 = .ok (.iload_n 1, 1) := by decide +kernel
theorem dX9_rope_56 : decode cX9_rope 56 = .ok (.invokevirtual 248, 3) := by decide +kernel
theorem dX9_rope_59 : decode cX9_rope 59 = .ok (.ifCond .eq 7, 3) := by decide +kernel
theorem dX9_rope_62 : decode cX9_rope 62 = .ok (.iconst 1, 1) := by decide +kernel
theorem dX9_rope_63 : decode cX9_rope 63 = .ok (.goto 4, 3) := by decide +kernel
theorem dX9_rope_66 : decode cX9_rope 66 = .ok (.iconst 0, 1) := by decide +kernel
theorem dX9_rope_67 : decode cX9_rope 67 = .ok (.ireturn, 1) := by decide +kernel
theorem dX9_sail_0 : decode cX9_sail 0 = .ok (.aload_n 0, 1) := by decide +kernel
theorem dX9_sail_1 : decode cX9_sail 1 = .ok (.iconst 0, 1) := by decide +kernel
theorem dX9_sail_2 : decode cX9_sail 2 = .ok (.putfield 1, 3) := by decide +kernel
theorem dX9_sail_5 : decode cX9_sail 5 = .ok (.iload_n 1, 1) := by decide +kernel
theorem dX9_sail_6 : decode cX9_sail 6 = .ok (.ifCond .lt 18, 3) := by decide +kernel
theorem dX9_sail_9 : decode cX9_sail 9 = .ok (.iload_n 1, 1) := by decide +kernel
theorem dX9_sail_10 : decode cX9_sail 10 = .ok (.bipush 8, 2) := by decide +kernel
theorem dX9_sail_12 : decode cX9_sail 12 = .ok (.if_icmp .gt 12, 3) := by decide +kernel
theorem dX9_sail_15 : decode cX9_sail 15 = .ok (.iload_n 2, 1) := by decide +kernel
theorem dX9_sail_16 : decode cX9_sail 16 = .ok (.ifCond .lt 8, 3) := by decide +kernel
theorem dX9_sail_19 : decode cX9_sail 19 = .ok (.iload_n 2, 1) := by decide +kernel
theorem dX9_sail_20 : decode cX9_sail 20 = .ok (.iconst 1, 1) := by decide +kernel
theorem dX9_sail_21 : decode cX9_sail 21 = .ok (.if_icmp .le 5, 3) := by decide +kernel
theorem dX9_sail_24 : decode cX9_sail 24 = .ok (.iconst (-1), 1) := by decide +kernel
theorem dX9_sail_25 : decode cX9_sail 25 = .ok (.ireturn, 1) := by decide +kernel
theorem dX9_sail_26 : decode cX9_sail 26 = .ok (.iload_n 2, 1) := by decide +kernel
theorem dX9_sail_27 : decode cX9_sail 27 = .ok (.ifCond .ne 12, 3) := by decide +kernel
theorem dX9_sail_30 : decode cX9_sail 30 = .ok (.aload_n 0, 1) := by decide +kernel
theorem dX9_sail_31 : decode cX9_sail 31 = .ok (.getfield 83, 3) := by decide +kernel
theorem dX9_sail_34 : decode cX9_sail 34 = .ok (.iload_n 1, 1) := by decide +kernel
theorem dX9_sail_35 : decode cX9_sail 35 = .ok (.iaload, 1) := by decide +kernel
theorem dX9_sail_36 : decode cX9_sail 36 = .ok (.goto 26, 3) := by decide +kernel
theorem dX9_sail_39 : decode cX9_sail 39 = .ok (.aload_n 0, 1) := by decide +kernel
theorem dX9_sail_40 : decode cX9_sail 40 = .ok (.iconst 0, 1) := by decide +kernel
theorem dX9_sail_41 : decode cX9_sail 41 = .ok (.iload_n 1, 1) := by decide +kernel
theorem dX9_sail_42 : decode cX9_sail 42 = .ok (.invokevirtual 248, 3) := by decide +kernel
theorem dX9_sail_45 : decode cX9_sail 45 = .ok (.ifCond .ne 12, 3) := by decide +kernel
theorem dX9_sail_48 : decode cX9_sail 48 = .ok (.aload_n 0, 1) := by decide +kernel
theorem dX9_sail_49 : decode cX9_sail 49 = .ok (.iconst 1, 1) := by decide +kernel
theorem dX9_sail_50 : decode cX9_sail 50 = .ok (.iload_n 1, 1) := by decide +kernel
theorem dX9_sail_51 : decode cX9_sail 51 = .ok (.invokevirtual 248, 3) := by decide +kernel
theorem dX9_sail_54 : decode cX9_sail 54 = .ok (.ifCond .eq 7, 3) := by decide +kernel
theorem dX9_sail_57 : decode cX9_sail 57 = .ok (.iconst 1, 1) := by decide +kernel
theorem dX9_sail_58 : decode cX9_sail 58 = .ok (.goto 4, 3) := by decide +kernel
theorem dX9_sail_61 : decode cX9_sail 61 = .ok (.iconst 0, 1) := by decide +kernel
theorem dX9_sail_62 : decode cX9_sail 62 = .ok (.ireturn, 1) := by decide +kernel
theorem dX9_sails_0 : decode cX9_sails 0 = .ok (.aload_n 0, 1) := by decide +kernel
theorem dX9_sails_1 : decode cX9_sails 1 = .ok (.invokevirtual 278, 3) := by decide +kernel
theorem dX9_sails_4 : decode cX9_sails 4 = .ok (.istore_n 1, 1) := by decide +kernel
theorem dX9_sails_5 : decode cX9_sails 5 = .ok (.aload_n 0, 1) := by decide +kernel
theorem dX9_sails_6 : decode cX9_sails 6 = .ok (.invokevirtual 281, 3) := by decide +kernel
theorem dX9_sails_9 : decode cX9_sails 9 = .ok (.aload_n 0, 1) := by decide +kernel
theorem dX9_sails_10 : decode cX9_sails 10 = .ok (.getfield 284, 3) := by decide +kernel
theorem dX9_sails_13 : decode cX9_sails 13 = .ok (.invokestatic 287, 3) := by decide +kernel
theorem dX9_sails_16 : decode cX9_sails 16 = .ok (.istore_n 2, 1) := by decide +kernel
theorem dX9_sails_17 : decode cX9_sails 17 = .ok (.iload_n 2, 1) := by decide +kernel
theorem dX9_sails_18 : decode cX9_sails 18 = .ok (.iconst 5, 1) := by decide +kernel
theorem dX9_sails_19 : decode cX9_sails 19 = .ok (.if_icmp .ge 7, 3) := by decide +kernel
theorem dX9_sails_22 : decode cX9_sails 22 = .ok (.iconst 1, 1) := by decide +kernel
theorem dX9_sails_23 : decode cX9_sails 23 = .ok (.goto 4, 3) := by decide +kernel
theorem dX9_sails_26 : decode cX9_sails 26 = .ok (.iconst 0, 1) := by decide +kernel
theorem dX9_sails_27 : decode cX9_sails 27 = .ok (.istore_n 3, 1) := by decide +kernel
theorem dX9_sails_28 : decode cX9_sails 28 = .ok (.bipush 16, 2) := by decide +kernel
theorem dX9_sails_30 : decode cX9_sails 30 = .ok (.iload_n 2, 1) := by decide +kernel
theorem dX9_sails_31 : decode cX9_sails 31 = .ok (.isub, 1) := by decide +kernel
theorem dX9_sails_32 : decode cX9_sails 32 = .ok (.bipush 8, 2) := by decide +kernel
theorem dX9_sails_34 : decode cX9_sails 34 = .ok (.imul, 1) := by decide +kernel
theorem dX9_sails_35 : decode cX9_sails 35 = .ok (.bipush 10, 2) := by decide +kernel
theorem dX9_sails_37 : decode cX9_sails 37 = .ok (.idiv, 1) := by decide +kernel
theorem dX9_sails_38 : decode cX9_sails 38 = .ok (.istore 4, 2) := by decide +kernel
theorem dX9_sails_40 : decode cX9_sails 40 = .ok (.iload 4, 2) := by decide +kernel
theorem dX9_sails_42 : decode cX9_sails 42 = .ok (.bipush 8, 2) := by decide +kernel
theorem dX9_sails_44 : decode cX9_sails 44 = .ok (.if_icmp .le 8, 3) := by decide +kernel
theorem dX9_sails_47 : decode cX9_sails 47 = .ok (.bipush 8, 2) := by decide +kernel
theorem dX9_sails_49 : decode cX9_sails 49 = .ok (.goto 5, 3) := by decide +kernel
theorem dX9_sails_52 : decode cX9_sails 52 = .ok (.iload 4, 2) := by decide +kernel
theorem dX9_sails_54 : decode cX9_sails 54 = .ok (.istore 4, 2) := by decide +kernel
theorem dX9_sails_56 : decode cX9_sails 56 = .ok (.iconst 0, 1) := by decide +kernel
theorem dX9_sails_57 : decode cX9_sails 57 = .ok (.istore 5, 2) := by decide +kernel
theorem dX9_sails_59 : decode cX9_sails 59 = .ok (.iconst 0, 1) := by decide +kernel
theorem dX9_sails_60 : decode cX9_sails 60 = .ok (.istore 6, 2) := by decide +kernel
theorem dX9_sails_62 : decode cX9_sails 62 = .ok (.iload 6, 2) := by decide +kernel
theorem dX9_sails_64 : decode cX9_sails 64 = .ok (.bipush 9, 2) := by decide +kernel
theorem dX9_sails_66 : decode cX9_sails 66 = .ok (.if_icmp .ge 129, 3) := by decide +kernel
theorem dX9_sails_69 : decode cX9_sails 69 = .ok (.aload_n 0, 1) := by decide +kernel
theorem dX9_sails_70 : decode cX9_sails 70 = .ok (.getfield 83, 3) := by decide +kernel
theorem dX9_sails_73 : decode cX9_sails 73 = .ok (.iload 6, 2) := by decide +kernel
theorem dX9_sails_75 : decode cX9_sails 75 = .ok (.iaload, 1) := by decide +kernel
theorem dX9_sails_76 : decode cX9_sails 76 = .ok (.iconst 1, 1) := by decide +kernel
theorem dX9_sails_77 : decode cX9_sails 77 = .ok (.if_icmp .eq 6, 3) := by decide +kernel
theorem dX9_sails_80 : decode cX9_sails 80 = .ok (.goto 109, 3) := by decide +kernel
theorem dX9_sails_83 : decode cX9_sails 83 = .ok (.aload_n 0, 1) := by decide +kernel
theorem dX9_sails_84 : decode cX9_sails 84 = .ok (.getfield 92, 3) := by decide +kernel
theorem dX9_sails_87 : decode cX9_sails 87 = .ok (.iload 6, 2) := by decide +kernel
theorem dX9_sails_89 : decode cX9_sails 89 = .ok (.iconst 3, 1) := by decide +kernel
theorem dX9_sails_90 : decode cX9_sails 90 = .ok (.idiv, 1) := by decide +kernel
theorem dX9_sails_91 : decode cX9_sails 91 = .ok (.iaload, 1) := by decide +kernel
theorem dX9_sails_92 : decode cX9_sails 92 = .ok (.iload 4, 2) := by decide +kernel
theorem dX9_sails_94 : decode cX9_sails 94 = .ok (.if_icmp .le 18, 3) := by decide +kernel
theorem dX9_sails_97 : decode cX9_sails 97 = .ok (.aload_n 0, 1) := by decide +kernel
theorem dX9_sails_98 : decode cX9_sails 98 = .ok (.getfield 92, 3) := by decide +kernel
theorem dX9_sails_101 : decode cX9_sails 101 = .ok (.iload 6, 2) := by decide +kernel
theorem dX9_sails_103 : decode cX9_sails 103 = .ok (.iconst 3, 1) := by decide +kernel
theorem dX9_sails_104 : decode cX9_sails 104 = .ok (.idiv, 1) := by decide +kernel
theorem dX9_sails_105 : decode cX9_sails 105 = .ok (.iaload, 1) := by decide +kernel
theorem dX9_sails_106 : decode cX9_sails 106 = .ok (.iload 4, 2) := by decide +kernel
theorem dX9_sails_108 : decode cX9_sails 108 = .ok (.isub, 1) := by decide +kernel
theorem dX9_sails_109 : decode cX9_sails 109 = .ok (.goto 15, 3) := by decide +kernel
theorem dX9_sails_112 : decode cX9_sails 112 = .ok (.iload 4, 2) := by decide +kernel
theorem dX9_sails_114 : decode cX9_sails 114 = .ok (.aload_n 0, 1) := by decide +kernel
theorem dX9_sails_115 : decode cX9_sails 115 = .ok (.getfield 92, 3) := by decide +kernel
theorem dX9_sails_118 : decode cX9_sails 118 = .ok (.iload 6, 2) := by decide +kernel
theorem dX9_sails_120 : decode cX9_sails 120 = .ok (.iconst 3, 1) := by decide +kernel
theorem dX9_sails_121 : decode cX9_sails 121 = .ok (.idiv, 1) := by decide +kernel
theorem dX9_sails_122 : decode cX9_sails 122 = .ok (.iaload, 1) := by decide +kernel
theorem dX9_sails_123 : decode cX9_sails 123 = .ok (.isub, 1) := by decide +kernel
theorem dX9_sails_124 : decode cX9_sails 124 = .ok (.istore 7, 2) := by decide +kernel
theorem dX9_sails_126 : decode cX9_sails 126 = .ok (.bipush 8, 2) := by decide +kernel
theorem dX9_sails_128 : decode cX9_sails 128 = .ok (.iconst 2, 1) := by decide +kernel
theorem dX9_sails_129 : decode cX9_sails 129 = .ok (.iload 7, 2) := by decide +kernel
theorem dX9_sails_131 : decode cX9_sails 131 = .ok (.imul, 1) := by decide +kernel
theorem dX9_sails_132 : decode cX9_sails 132 = .ok (.isub, 1) := by decide +kernel
theorem dX9_sails_133 : decode cX9_sails 133 = .ok (.ifCond .ge 7, 3) := by decide +kernel
theorem dX9_sails_136 : decode cX9_sails 136 = .ok (.iconst 0, 1) := by decide +kernel
theorem dX9_sails_137 : decode cX9_sails 137 = .ok (.goto 10, 3) := by decide +kernel
theorem dX9_sails_140 : decode cX9_sails 140 = .ok (.bipush 8, 2) := by decide +kernel
theorem dX9_sails_142 : decode cX9_sails 142 = .ok (.iconst 2, 1) := by decide +kernel
theorem dX9_sails_143 : decode cX9_sails 143 = .ok (.iload 7, 2) := by decide +kernel
theorem dX9_sails_145 : decode cX9_sails 145 = .ok (.imul, 1) := by decide +kernel
theorem dX9_sails_146 : decode cX9_sails 146 = .ok (.isub, 1) := by decide +kernel
theorem dX9_sails_147 : decode cX9_sails 147 = .ok (.istore 8, 2) := by decide +kernel
theorem dX9_sails_149 : decode cX9_sails 149 = .ok (.iload 5, 2) := by decide +kernel
theorem dX9_sails_151 : decode cX9_sails 151 = .ok (.iload_n 3, 1) := by decide +kernel
theorem dX9_sails_152 : decode cX9_sails 152 = .ok (.ifCond .eq 16, 3) := by decide +kernel
theorem dX9_sails_155 : decode cX9_sails 155 = .ok (.iload 6, 2) := by decide +kernel
theorem dX9_sails_157 : decode cX9_sails 157 = .ok (.invokestatic 320, 3) := by decide +kernel
theorem dX9_sails_160 : decode cX9_sails 160 = .ok (.iload_n 1, 1) := by decide +kernel
theorem dX9_sails_161 : decode cX9_sails 161 = .ok (.imul, 1) := by decide +kernel
theorem dX9_sails_162 : decode cX9_sails 162 = .ok (.iconst 4, 1) := by decide +kernel
theorem dX9_sails_163 : decode cX9_sails 163 = .ok (.idiv, 1) := by decide +kernel
theorem dX9_sails_164 : decode cX9_sails 164 = .ok (.ineg, 1) := by decide +kernel
theorem dX9_sails_165 : decode cX9_sails 165 = .ok (.goto 21, 3) := by decide +kernel
theorem dX9_sails_168 : decode cX9_sails 168 = .ok (.iload 6, 2) := by decide +kernel
theorem dX9_sails_170 : decode cX9_sails 170 = .ok (.invokestatic 320, 3) := by decide +kernel
theorem dX9_sails_173 : decode cX9_sails 173 = .ok (.iload_n 1, 1) := by decide +kernel
theorem dX9_sails_174 : decode cX9_sails 174 = .ok (.imul, 1) := by decide +kernel
theorem dX9_sails_175 : decode cX9_sails 175 = .ok (.iload_n 2, 1) := by decide +kernel
theorem dX9_sails_176 : decode cX9_sails 176 = .ok (.invokestatic 323, 3) := by decide +kernel
theorem dX9_sails_179 : decode cX9_sails 179 = .ok (.imul, 1) := by decide +kernel
theorem dX9_sails_180 : decode cX9_sails 180 = .ok (.iload 8, 2) := by decide +kernel
theorem dX9_sails_182 : decode cX9_sails 182 = .ok (.imul, 1) := by decide +kernel
theorem dX9_sails_183 : decode cX9_sails 183 = .ok (.bipush 64, 2) := by decide +kernel
theorem dX9_sails_185 : decode cX9_sails 185 = .ok (.idiv, 1) := by decide +kernel
theorem dX9_sails_186 : decode cX9_sails 186 = .ok (.iadd, 1) := by decide +kernel
theorem dX9_sails_187 : decode cX9_sails 187 = .ok (.istore 5, 2) := by decide +kernel
theorem dX9_sails_189 : decode cX9_sails 189 = .ok (.iinc 6 1, 3) := by decide +kernel
theorem dX9_sails_192 : decode cX9_sails 192 = .ok (.goto (-130), 3) := by decide +kernel
theorem dX9_sails_195 : decode cX9_sails 195 = .ok (.iload 5, 2) := by decide +kernel
theorem dX9_sails_197 : decode cX9_sails 197 = .ok (.bipush 20, 2) := by decide +kernel
theorem dX9_sails_199 : decode cX9_sails 199 = .ok (.idiv, 1) := by decide +kernel
theorem dX9_sails_200 : decode cX9_sails 200 = .ok (.istore 6, 2) := by decide +kernel
theorem dX9_sails_202 : decode cX9_sails 202 = .ok (.iload 6, 2) := by decide +kernel
theorem dX9_sails_204 : decode cX9_sails 204 = .ok (.bipush 14, 2) := by decide +kernel
theorem dX9_sails_206 : decode cX9_sails 206 = .ok (.if_icmp .le 8, 3) := by decide +kernel
theorem dX9_sails_209 : decode cX9_sails 209 = .ok (.bipush 14, 2) := by decide +kernel
theorem dX9_sails_211 : decode cX9_sails 211 = .ok (.goto 17, 3) := by decide +kernel
theorem dX9_sails_214 : decode cX9_sails 214 = .ok (.iload 6, 2) := by decide +kernel
theorem dX9_sails_216 : decode cX9_sails 216 = .ok (.bipush (-3), 2) := by decide +kernel
theorem dX9_sails_218 : decode cX9_sails 218 = .ok (.if_icmp .ge 8, 3) := by decide +kernel
theorem dX9_sails_221 : decode cX9_sails 221 = .ok (.bipush (-3), 2) := by decide +kernel
theorem dX9_sails_223 : decode cX9_sails 223 = .ok (.goto 5, 3) := by decide +kernel
theorem dX9_sails_226 : decode cX9_sails 226 = .ok (.iload 6, 2) := by decide +kernel
theorem dX9_sails_228 : decode cX9_sails 228 = .ok (.istore 6, 2) := by decide +kernel
theorem dX9_sails_230 : decode cX9_sails 230 = .ok (.aload_n 0, 1) := by decide +kernel
theorem dX9_sails_231 : decode cX9_sails 231 = .ok (.dup, 1) := by decide +kernel
theorem dX9_sails_232 : decode cX9_sails 232 = .ok (.getfield 290, 3) := by decide +kernel
theorem dX9_sails_235 : decode cX9_sails 235 = .ok (.iload 6, 2) := by decide +kernel
theorem dX9_sails_237 : decode cX9_sails 237 = .ok (.aload_n 0, 1) := by decide +kernel
theorem dX9_sails_238 : decode cX9_sails 238 = .ok (.getfield 290, 3) := by decide +kernel
theorem dX9_sails_241 : decode cX9_sails 241 = .ok (.if_icmp .le 7, 3) := by decide +kernel
theorem dX9_sails_244 : decode cX9_sails 244 = .ok (.iconst 1, 1) := by decide +kernel
theorem dX9_sails_245 : decode cX9_sails 245 = .ok (.goto 17, 3) := by decide +kernel
theorem dX9_sails_248 : decode cX9_sails 248 = .ok (.iload 6, 2) := by decide +kernel
theorem dX9_sails_250 : decode cX9_sails 250 = .ok (.aload_n 0, 1) := by decide +kernel
theorem dX9_sails_251 : decode cX9_sails 251 = .ok (.getfield 290, 3) := by decide +kernel
theorem dX9_sails_254 : decode cX9_sails 254 = .ok (.if_icmp .ge 7, 3) := by decide +kernel
theorem dX9_sails_257 : decode cX9_sails 257 = .ok (.iconst (-1), 1) := by decide +kernel
theorem dX9_sails_258 : decode cX9_sails 258 = .ok (.goto 4, 3) := by decide +kernel
theorem dX9_sails_261 : decode cX9_sails 261 = .ok (.iconst 0, 1) := by decide +kernel
theorem dX9_sails_262 : decode cX9_sails 262 = .ok (.iadd, 1) := by decide +kernel
theorem dX9_sails_263 : decode cX9_sails 263 = .ok (.putfield 290, 3) := by decide +kernel
theorem dX9_sails_266 : decode cX9_sails 266 = .ok (.iconst 0, 1) := by decide +kernel
theorem dX9_sails_267 : decode cX9_sails 267 = .ok (.istore 7, 2) := by decide +kernel
theorem dX9_sails_269 : decode cX9_sails 269 = .ok (.iload 7, 2) := by decide +kernel
theorem dX9_sails_271 : decode cX9_sails 271 = .ok (.bipush 9, 2) := by decide +kernel
theorem dX9_sails_273 : decode cX9_sails 273 = .ok (.if_icmp .ge 47, 3) := by decide +kernel
theorem dX9_sails_276 : decode cX9_sails 276 = .ok (.aload_n 0, 1) := by decide +kernel
theorem dX9_sails_277 : decode cX9_sails 277 = .ok (.getfield 83, 3) := by decide +kernel
theorem dX9_sails_280 : decode cX9_sails 280 = .ok (.iload 7, 2) := by decide +kernel
theorem dX9_sails_282 : decode cX9_sails 282 = .ok (.iaload, 1) := by decide +kernel
theorem dX9_sails_283 : decode cX9_sails 283 = .ok (.iconst 1, 1) := by decide +kernel
theorem dX9_sails_284 : decode cX9_sails 284 = .ok (.if_icmp .ne 30, 3) := by decide +kernel
theorem dX9_sails_287 : decode cX9_sails 287 = .ok (.aload_n 0, 1) := by decide +kernel
theorem dX9_sails_288 : decode cX9_sails 288 = .ok (.iload 7, 2) := by decide +kernel
theorem dX9_sails_290 : decode cX9_sails 290 = .ok (.iload_n 1, 1) := by decide +kernel
theorem dX9_sails_291 : decode cX9_sails 291 = .ok (.iload_n 1, 1) := by decide +kernel
theorem dX9_sails_292 : decode cX9_sails 292 = .ok (.imul, 1) := by decide +kernel
theorem dX9_sails_293 : decode cX9_sails 293 = .ok (.iload 7, 2) := by decide +kernel
theorem dX9_sails_295 : decode cX9_sails 295 = .ok (.invokestatic 320, 3) := by decide +kernel
theorem dX9_sails_298 : decode cX9_sails 298 = .ok (.imul, 1) := by decide +kernel
theorem dX9_sails_299 : decode cX9_sails 299 = .ok (.iconst 4, 1) := by decide +kernel
theorem dX9_sails_300 : decode cX9_sails 300 = .ok (.idiv, 1) := by decide +kernel
theorem dX9_sails_301 : decode cX9_sails 301 = .ok (.iload_n 3, 1) := by decide +kernel
theorem dX9_sails_302 : decode cX9_sails 302 = .ok (.ifCond .eq 7, 3) := by decide +kernel
theorem dX9_sails_305 : decode cX9_sails 305 = .ok (.iconst 2, 1) := by decide +kernel
theorem dX9_sails_306 : decode cX9_sails 306 = .ok (.goto 4, 3) := by decide +kernel
theorem dX9_sails_309 : decode cX9_sails 309 = .ok (.iconst 1, 1) := by decide +kernel
theorem dX9_sails_310 : decode cX9_sails 310 = .ok (.imul, 1) := by decide +kernel
theorem dX9_sails_311 : decode cX9_sails 311 = .ok (.invokevirtual 326, 3) := by decide +kernel
theorem dX9_sails_314 : decode cX9_sails 314 = .ok (.iinc 7 1, 3) := by decide +kernel
theorem dX9_sails_317 : decode cX9_sails 317 = .ok (.goto (-48), 3) := by decide +kernel
theorem dX9_sails_320 : decode cX9_sails 320 = .ok (.return_, 1) := by decide +kernel
theorem dX9_statement_0 : decode cX9_statement 0 = .ok (.iconst 0, 1) := by decide +kernel
theorem dX9_statement_1 : decode cX9_statement 1 = .ok (.istore_n 1, 1) := by decide +kernel
theorem dX9_statement_2 : decode cX9_statement 2 = .ok (.iload_n 1, 1) := by decide +kernel
theorem dX9_statement_3 : decode cX9_statement 3 = .ok (.bipush 9, 2) := by decide +kernel
theorem dX9_statement_5 : decode cX9_statement 5 = .ok (.if_icmp .gt 23, 3) := by decide +kernel
theorem dX9_statement_8 : decode cX9_statement 8 = .ok (.iload_n 1, 1) := by decide +kernel
theorem dX9_statement_9 : decode cX9_statement 9 = .ok (.bipush 8, 2) := by decide +kernel
theorem dX9_statement_11 : decode cX9_statement 11 = .ok (.if_icmp .eq 11, 3) := by decide +kernel
theorem dX9_statement_14 : decode cX9_statement 14 = .ok (.aload_n 0, 1) := by decide +kernel
theorem dX9_statement_15 : decode cX9_statement 15 = .ok (.iload_n 1, 1) := by decide +kernel
theorem dX9_statement_16 : decode cX9_statement 16 = .ok (.invokevirtual 177, 3) := by decide +kernel
theorem dX9_statement_19 : decode cX9_statement 19 = .ok (.ifCond .ne 9, 3) := by decide +kernel
theorem dX9_statement_22 : decode cX9_statement 22 = .ok (.iinc 1 1, 3) := by decide +kernel
theorem dX9_statement_25 : decode cX9_statement 25 = .ok (.goto (-23), 3) := by decide +kernel
theorem dX9_statement_28 : decode cX9_statement 28 = .ok (.iload_n 1, 1) := by decide +kernel
theorem dX9_statement_29 : decode cX9_statement 29 = .ok (.bipush 9, 2) := by decide +kernel
theorem dX9_statement_31 : decode cX9_statement 31 = .ok (.if_icmp .le 11, 3) := by decide +kernel
theorem dX9_statement_34 : decode cX9_statement 34 = .ok (.aload_n 0, 1) := by decide +kernel
theorem dX9_statement_35 : decode cX9_statement 35 = .ok (.iconst 1, 1) := by decide +kernel
theorem dX9_statement_36 : decode cX9_statement 36 = .ok (.invokevirtual 173, 3) := by decide +kernel
theorem dX9_statement_39 : decode cX9_statement 39 = .ok (.goto 22, 3) := by decide +kernel
theorem dX9_statement_42 : decode cX9_statement 42 = .ok (.aload_n 0, 1) := by decide +kernel
theorem dX9_statement_43 : decode cX9_statement 43 = .ok (.getfield 80, 3) := by decide +kernel
theorem dX9_statement_46 : decode cX9_statement 46 = .ok (.aload_n 0, 1) := by decide +kernel
theorem dX9_statement_47 : decode cX9_statement 47 = .ok (.getfield 183, 3) := by decide +kernel
theorem dX9_statement_50 : decode cX9_statement 50 = .ok (.iaload, 1) := by decide +kernel
theorem dX9_statement_51 : decode cX9_statement 51 = .ok (.bipush 80, 2) := by decide +kernel
theorem dX9_statement_53 : decode cX9_statement 53 = .ok (.if_icmp .ne 8, 3) := by decide +kernel
theorem dX9_statement_56 : decode cX9_statement 56 = .ok (.aload_n 0, 1) := by decide +kernel
theorem dX9_statement_57 : decode cX9_statement 57 = .ok (.iconst 5, 1) := by decide +kernel
theorem dX9_statement_58 : decode cX9_statement 58 = .ok (.invokevirtual 173, 3) := by decide +kernel
theorem dX9_statement_61 : decode cX9_statement 61 = .ok (.aload_n 0, 1) := by decide +kernel
theorem dX9_statement_62 : decode cX9_statement 62 = .ok (.getfield 167, 3) := by decide +kernel
theorem dX9_statement_65 : decode cX9_statement 65 = .ok (.ifCond .le 4, 3) := by decide +kernel
theorem dX9_statement_68 : decode cX9_statement 68 = .ok (.return_, 1) := by decide +kernel
theorem dX9_statement_69 : decode cX9_statement 69 = .ok (.aload_n 0, 1) := by decide +kernel
theorem dX9_statement_70 : decode cX9_statement 70 = .ok (.getfield 80, 3) := by decide +kernel
theorem dX9_statement_73 : decode cX9_statement 73 = .ok (.aload_n 0, 1) := by decide +kernel
theorem dX9_statement_74 : decode cX9_statement 74 = .ok (.getfield 183, 3) := by decide +kernel
theorem dX9_statement_77 : decode cX9_statement 77 = .ok (.dup2, 1) := by decide +kernel
theorem dX9_statement_78 : decode cX9_statement 78 = .ok (.iaload, 1) := by decide +kernel
theorem dX9_statement_79 : decode cX9_statement 79 = .ok (.iconst 1, 1) := by decide +kernel
theorem dX9_statement_80 : decode cX9_statement 80 = .ok (.iadd, 1) := by decide +kernel
theorem dX9_statement_81 : decode cX9_statement 81 = .ok (.iastore, 1) := by decide +kernel
theorem dX9_statement_82 : decode cX9_statement 82 = .ok (.aload_n 0, 1) := by decide +kernel
theorem dX9_statement_83 : decode cX9_statement 83 = .ok (.invokevirtual 211, 3) := by decide +kernel
theorem dX9_statement_86 : decode cX9_statement 86 = .ok (.istore_n 2, 1) := by decide +kernel
theorem dX9_statement_87 : decode cX9_statement 87 = .ok (.aload_n 0, 1) := by decide +kernel
theorem dX9_statement_88 : decode cX9_statement 88 = .ok (.dup, 1) := by decide +kernel
theorem dX9_statement_89 : decode cX9_statement 89 = .ok (.getfield 164, 3) := by decide +kernel
theorem dX9_statement_92 : decode cX9_statement 92 = .ok (.iconst 1, 1) := by decide +kernel
theorem dX9_statement_93 : decode cX9_statement 93 = .ok (.iadd, 1) := by decide +kernel
theorem dX9_statement_94 : decode cX9_statement 94 = .ok (.putfield 164, 3) := by decide +kernel
theorem dX9_statement_97 : decode cX9_statement 97 = .ok (.iload_n 1, 1) := by decide +kernel
theorem dX9_statement_98 : decode cX9_statement 98 = .ok (.bipush 7, 2) := by decide +kernel
theorem dX9_statement_100 : decode cX9_statement 100 = .ok (.if_icmp .eq 9, 3) := by decide +kernel
theorem dX9_statement_103 : decode cX9_statement 103 = .ok (.iload_n 1, 1) := by decide +kernel
theorem dX9_statement_104 : decode cX9_statement 104 = .ok (.bipush 9, 2) := by decide +kernel
theorem dX9_statement_106 : decode cX9_statement 106 = .ok (.if_icmp .ne 10, 3) := by decide +kernel
theorem dX9_statement_109 : decode cX9_statement 109 = .ok (.aload_n 0, 1) := by decide +kernel
theorem dX9_statement_110 : decode cX9_statement 110 = .ok (.iload_n 1, 1) := by decide +kernel
theorem dX9_statement_111 : decode cX9_statement 111 = .ok (.iload_n 2, 1) := by decide +kernel
theorem dX9_statement_112 : decode cX9_statement 112 = .ok (.invokevirtual 215, 3) := by decide +kernel
theorem dX9_statement_115 : decode cX9_statement 115 = .ok (.return_, 1) := by decide +kernel
theorem dX9_statement_116 : decode cX9_statement 116 = .ok (.aload_n 0, 1) := by decide +kernel
theorem dX9_statement_117 : decode cX9_statement 117 = .ok (.iload_n 1, 1) := by decide +kernel
theorem dX9_statement_118 : decode cX9_statement 118 = .ok (.bipush 6, 2) := by decide +kernel
theorem dX9_statement_120 : decode cX9_statement 120 = .ok (.if_icmp .ne 7, 3) := by decide +kernel
theorem dX9_statement_123 : decode cX9_statement 123 = .ok (.iconst 1, 1) := by decide +kernel
theorem dX9_statement_124 : decode cX9_statement 124 = .ok (.goto 4, 3) := by decide +kernel
theorem dX9_statement_127 : decode cX9_statement 127 = .ok (.iconst 0, 1) := by decide +kernel
theorem dX9_statement_128 : decode cX9_statement 128 = .ok (.iload_n 1, 1) := by decide +kernel
theorem dX9_statement_129 : decode cX9_statement 129 = .ok (.iconst 2, 1) := by decide +kernel
theorem dX9_statement_130 : decode cX9_statement 130 = .ok (.if_icmp .ge 8, 3) := by decide +kernel
theorem dX9_statement_133 : decode cX9_statement 133 = .ok (.bipush 8, 2) := by decide +kernel
theorem dX9_statement_135 : decode cX9_statement 135 = .ok (.goto 40, 3) := by decide +kernel
theorem dX9_statement_138 : decode cX9_statement 138 = .ok (.iload_n 1, 1) := by decide +kernel
theorem dX9_statement_139 : decode cX9_statement 139 = .ok (.iconst 2, 1) := by decide +kernel
theorem dX9_statement_140 : decode cX9_statement 140 = .ok (.if_icmp .eq 8, 3) := by decide +kernel
theorem dX9_statement_143 : decode cX9_statement 143 = .ok (.iload_n 1, 1) := by decide +kernel
theorem dX9_statement_144 : decode cX9_statement 144 = .ok (.iconst 5, 1) := by decide +kernel
theorem dX9_statement_145 : decode cX9_statement 145 = .ok (.if_icmp .ne 7, 3) := by decide +kernel
theorem dX9_statement_148 : decode cX9_statement 148 = .ok (.iconst 2, 1) := by decide +kernel
theorem dX9_statement_149 : decode cX9_statement 149 = .ok (.goto 26, 3) := by decide +kernel
theorem dX9_statement_152 : decode cX9_statement 152 = .ok (.iload_n 1, 1) := by decide +kernel
theorem dX9_statement_153 : decode cX9_statement 153 = .ok (.iconst 3, 1) := by decide +kernel
theorem dX9_statement_154 : decode cX9_statement 154 = .ok (.if_icmp .ne 8, 3) := by decide +kernel
theorem dX9_statement_157 : decode cX9_statement 157 = .ok (.bipush 17, 2) := by decide +kernel
theorem dX9_statement_159 : decode cX9_statement 159 = .ok (.goto 16, 3) := by decide +kernel
theorem dX9_statement_162 : decode cX9_statement 162 = .ok (.iload_n 1, 1) := by decide +kernel
theorem dX9_statement_163 : decode cX9_statement 163 = .ok (.iconst 4, 1) := by decide +kernel
theorem dX9_statement_164 : decode cX9_statement 164 = .ok (.if_icmp .ne 8, 3) := by decide +kernel
theorem dX9_statement_167 : decode cX9_statement 167 = .ok (.bipush 31, 2) := by decide +kernel
theorem dX9_statement_169 : decode cX9_statement 169 = .ok (.goto 6, 3) := by decide +kernel
theorem dX9_statement_172 : decode cX9_statement 172 = .ok (.sipush 999, 3) := by decide +kernel
theorem dX9_statement_175 : decode cX9_statement 175 = .ok (.invokevirtual 219, 3) := by decide +kernel
theorem dX9_statement_178 : decode cX9_statement 178 = .ok (.istore_n 3, 1) := by decide +kernel
theorem dX9_statement_179 : decode cX9_statement 179 = .ok (.iload_n 1, 1) := by decide +kernel
theorem dX9_statement_180 : decode cX9_statement 180 = .ok (.iconst 2, 1) := by decide +kernel
theorem dX9_statement_181 : decode cX9_statement 181 = .ok (.if_icmp .ne 13, 3) := by decide +kernel
theorem dX9_statement_184 : decode cX9_statement 184 = .ok (.aload_n 0, 1) := by decide +kernel
theorem dX9_statement_185 : decode cX9_statement 185 = .ok (.iconst 0, 1) := by decide +kernel
theorem dX9_statement_186 : decode cX9_statement 186 = .ok (.bipush 8, 2) := by decide +kernel
theorem dX9_statement_188 : decode cX9_statement 188 = .ok (.invokevirtual 219, 3) := by decide +kernel
theorem dX9_statement_191 : decode cX9_statement 191 = .ok (.goto 4, 3) := by decide +kernel
theorem dX9_statement_194 : decode cX9_statement 194 = .ok (.iconst 0, 1) := by decide +kernel
theorem dX9_statement_195 : decode cX9_statement 195 = .ok (.istore 4, 2) := by decide +kernel
theorem dX9_statement_197 : decode cX9_statement 197 = .ok (.aload_n 0, 1) := by decide +kernel
theorem dX9_statement_198 : decode cX9_statement 198 = .ok (.bipush 59, 2) := by decide +kernel
theorem dX9_statement_200 : decode cX9_statement 200 = .ok (.invokevirtual 223, 3) := by decide +kernel
theorem dX9_statement_203 : decode cX9_statement 203 = .ok (.iload_n 1, 1) := by decide +kernel
theorem dX9_statement_204 : decode cX9_statement 204 = .ok (.iconst 4, 1) := by decide +kernel
theorem dX9_statement_205 : decode cX9_statement 205 = .ok (.if_icmp .ge 20, 3) := by decide +kernel
theorem dX9_statement_208 : decode cX9_statement 208 = .ok (.aload_n 0, 1) := by decide +kernel
theorem dX9_statement_209 : decode cX9_statement 209 = .ok (.bipush 7, 2) := by decide +kernel
theorem dX9_statement_211 : decode cX9_statement 211 = .ok (.bipush 32, 2) := by decide +kernel
theorem dX9_statement_213 : decode cX9_statement 213 = .ok (.iload_n 1, 1) := by decide +kernel
theorem dX9_statement_214 : decode cX9_statement 214 = .ok (.imul, 1) := by decide +kernel
theorem dX9_statement_215 : decode cX9_statement 215 = .ok (.iload_n 3, 1) := by decide +kernel
theorem dX9_statement_216 : decode cX9_statement 216 = .ok (.iadd, 1) := by decide +kernel
theorem dX9_statement_217 : decode cX9_statement 217 = .ok (.iload 4, 2) := by decide +kernel
theorem dX9_statement_219 : decode cX9_statement 219 = .ok (.invokevirtual 201, 3) := by decide +kernel
theorem dX9_statement_222 : decode cX9_statement 222 = .ok (.goto 31, 3) := by decide +kernel
theorem dX9_statement_225 : decode cX9_statement 225 = .ok (.aload_n 0, 1) := by decide +kernel
theorem dX9_statement_226 : decode cX9_statement 226 = .ok (.iload_n 1, 1) := by decide +kernel
theorem dX9_statement_227 : decode cX9_statement 227 = .ok (.iconst 4, 1) := by decide +kernel
theorem dX9_statement_228 : decode cX9_statement 228 = .ok (.if_icmp .ne 8, 3) := by decide +kernel
theorem dX9_statement_231 : decode cX9_statement 231 = .ok (.bipush 8, 2) := by decide +kernel
theorem dX9_statement_233 : decode cX9_statement 233 = .ok (.goto 15, 3) := by decide +kernel
theorem dX9_statement_236 : decode cX9_statement 236 = .ok (.iload_n 1, 1) := by decide +kernel
theorem dX9_statement_237 : decode cX9_statement 237 = .ok (.iconst 5, 1) := by decide +kernel
theorem dX9_statement_238 : decode cX9_statement 238 = .ok (.if_icmp .ne 8, 3) := by decide +kernel
theorem dX9_statement_241 : decode cX9_statement 241 = .ok (.bipush 9, 2) := by decide +kernel
theorem dX9_statement_243 : decode cX9_statement 243 = .ok (.goto 5, 3) := by decide +kernel
theorem dX9_statement_246 : decode cX9_statement 246 = .ok (.bipush 10, 2) := by decide +kernel
theorem dX9_statement_248 : decode cX9_statement 248 = .ok (.iload_n 3, 1) := by decide +kernel
theorem dX9_statement_249 : decode cX9_statement 249 = .ok (.iconst 0, 1) := by decide +kernel
theorem dX9_statement_250 : decode cX9_statement 250 = .ok (.invokevirtual 201, 3) := by decide +kernel
theorem dX9_statement_253 : decode cX9_statement 253 = .ok (.istore 5, 2) := by decide +kernel
theorem dX9_statement_255 : decode cX9_statement 255 = .ok (.return_, 1) := by decide +kernel
theorem dX9_sum_0 : decode cX9_sum 0 = .ok (.aload_n 0, 1) := by decide +kernel
theorem dX9_sum_1 : decode cX9_sum 1 = .ok (.invokevirtual 235, 3) := by decide +kernel
theorem dX9_sum_4 : decode cX9_sum 4 = .ok (.aload_n 0, 1) := by decide +kernel
theorem dX9_sum_5 : decode cX9_sum 5 = .ok (.bipush 43, 2) := by decide +kernel
theorem dX9_sum_7 : decode cX9_sum 7 = .ok (.invokevirtual 170, 3) := by decide +kernel
theorem dX9_sum_10 : decode cX9_sum 10 = .ok (.ifCond .ne 12, 3) := by decide +kernel
theorem dX9_sum_13 : decode cX9_sum 13 = .ok (.aload_n 0, 1) := by decide +kernel
theorem dX9_sum_14 : decode cX9_sum 14 = .ok (.bipush 45, 2) := by decide +kernel
theorem dX9_sum_16 : decode cX9_sum 16 = .ok (.invokevirtual 170, 3) := by decide +kernel
theorem dX9_sum_19 : decode cX9_sum 19 = .ok (.ifCond .eq 43, 3) := by decide +kernel
theorem dX9_sum_22 : decode cX9_sum 22 = .ok (.aload_n 0, 1) := by decide +kernel
theorem dX9_sum_23 : decode cX9_sum 23 = .ok (.bipush 43, 2) := by decide +kernel
theorem dX9_sum_25 : decode cX9_sum 25 = .ok (.invokevirtual 170, 3) := by decide +kernel
theorem dX9_sum_28 : decode cX9_sum 28 = .ok (.ifCond .eq 7, 3) := by decide +kernel
theorem dX9_sum_31 : decode cX9_sum 31 = .ok (.iconst 3, 1) := by decide +kernel
theorem dX9_sum_32 : decode cX9_sum 32 = .ok (.goto 4, 3) := by decide +kernel
theorem dX9_sum_35 : decode cX9_sum 35 = .ok (.iconst 4, 1) := by decide +kernel
theorem dX9_sum_36 : decode cX9_sum 36 = .ok (.istore_n 1, 1) := by decide +kernel
theorem dX9_sum_37 : decode cX9_sum 37 = .ok (.aload_n 0, 1) := by decide +kernel
theorem dX9_sum_38 : decode cX9_sum 38 = .ok (.dup, 1) := by decide +kernel
theorem dX9_sum_39 : decode cX9_sum 39 = .ok (.getfield 164, 3) := by decide +kernel
theorem dX9_sum_42 : decode cX9_sum 42 = .ok (.iconst 1, 1) := by decide +kernel
theorem dX9_sum_43 : decode cX9_sum 43 = .ok (.iadd, 1) := by decide +kernel
theorem dX9_sum_44 : decode cX9_sum 44 = .ok (.putfield 164, 3) := by decide +kernel
theorem dX9_sum_47 : decode cX9_sum 47 = .ok (.aload_n 0, 1) := by decide +kernel
theorem dX9_sum_48 : decode cX9_sum 48 = .ok (.invokevirtual 235, 3) := by decide +kernel
theorem dX9_sum_51 : decode cX9_sum 51 = .ok (.aload_n 0, 1) := by decide +kernel
theorem dX9_sum_52 : decode cX9_sum 52 = .ok (.iload_n 1, 1) := by decide +kernel
theorem dX9_sum_53 : decode cX9_sum 53 = .ok (.iconst 0, 1) := by decide +kernel
theorem dX9_sum_54 : decode cX9_sum 54 = .ok (.iconst 0, 1) := by decide +kernel
theorem dX9_sum_55 : decode cX9_sum 55 = .ok (.invokevirtual 201, 3) := by decide +kernel
theorem dX9_sum_58 : decode cX9_sum 58 = .ok (.istore_n 2, 1) := by decide +kernel
theorem dX9_sum_59 : decode cX9_sum 59 = .ok (.goto (-55), 3) := by decide +kernel
theorem dX9_sum_62 : decode cX9_sum 62 = .ok (.return_, 1) := by decide +kernel
theorem dX9_table_0 : decode cX9_table 0 = .ok (.iload_n 0, 1) := by decide +kernel
theorem dX9_table_1 : decode cX9_table 1 = .ok (.iconst 5, 1) := by decide +kernel
theorem dX9_table_2 : decode cX9_table 2 = .ok (.if_icmp .ge 7, 3) := by decide +kernel
theorem dX9_table_5 : decode cX9_table 5 = .ok (.iconst 0, 1) := by decide +kernel
theorem dX9_table_6 : decode cX9_table 6 = .ok (.goto 41, 3) := by decide +kernel
theorem dX9_table_9 : decode cX9_table 9 = .ok (.iload_n 0, 1) := by decide +kernel
theorem dX9_table_10 : decode cX9_table 10 = .ok (.bipush 8, 2) := by decide +kernel
theorem dX9_table_12 : decode cX9_table 12 = .ok (.if_icmp .ge 11, 3) := by decide +kernel
theorem dX9_table_15 : decode cX9_table 15 = .ok (.iconst 2, 1) := by decide +kernel
theorem dX9_table_16 : decode cX9_table 16 = .ok (.iload_n 0, 1) := by decide +kernel
theorem dX9_table_17 : decode cX9_table 17 = .ok (.iconst 4, 1) := by decide +kernel
theorem dX9_table_18 : decode cX9_table 18 = .ok (.isub, 1) := by decide +kernel
theorem dX9_table_19 : decode cX9_table 19 = .ok (.imul, 1) := by decide +kernel
theorem dX9_table_20 : decode cX9_table 20 = .ok (.goto 27, 3) := by decide +kernel
theorem dX9_table_23 : decode cX9_table 23 = .ok (.iload_n 0, 1) := by decide +kernel
theorem dX9_table_24 : decode cX9_table 24 = .ok (.bipush 13, 2) := by decide +kernel
theorem dX9_table_26 : decode cX9_table 26 = .ok (.if_icmp .ge 8, 3) := by decide +kernel
theorem dX9_table_29 : decode cX9_table 29 = .ok (.bipush 8, 2) := by decide +kernel
theorem dX9_table_31 : decode cX9_table 31 = .ok (.goto 16, 3) := by decide +kernel
theorem dX9_table_34 : decode cX9_table 34 = .ok (.iload_n 0, 1) := by decide +kernel
theorem dX9_table_35 : decode cX9_table 35 = .ok (.bipush 13, 2) := by decide +kernel
theorem dX9_table_37 : decode cX9_table 37 = .ok (.if_icmp .ne 8, 3) := by decide +kernel
theorem dX9_table_40 : decode cX9_table 40 = .ok (.bipush 7, 2) := by decide +kernel
theorem dX9_table_42 : decode cX9_table 42 = .ok (.goto 5, 3) := by decide +kernel
theorem dX9_table_45 : decode cX9_table 45 = .ok (.bipush 6, 2) := by decide +kernel
theorem dX9_table_47 : decode cX9_table 47 = .ok (.ireturn, 1) := by decide +kernel
theorem dX9_takeNumber_0 : decode cX9_takeNumber 0 = .ok (.aload_n 0, 1) := by decide +kernel
theorem dX9_takeNumber_1 : decode cX9_takeNumber 1 = .ok (.getfield 167, 3) := by decide +kernel
theorem dX9_takeNumber_4 : decode cX9_takeNumber 4 = .ok (.ifCond .ne 24, 3) := by decide +kernel
theorem dX9_takeNumber_7 : decode cX9_takeNumber 7 = .ok (.aload_n 0, 1) := by decide +kernel
theorem dX9_takeNumber_8 : decode cX9_takeNumber 8 = .ok (.getfield 24, 3) := by decide +kernel
theorem dX9_takeNumber_11 : decode cX9_takeNumber 11 = .ok (.aload_n 0, 1) := by decide +kernel
theorem dX9_takeNumber_12 : decode cX9_takeNumber 12 = .ok (.getfield 164, 3) := by decide +kernel
theorem dX9_takeNumber_15 : decode cX9_takeNumber 15 = .ok (.iaload, 1) := by decide +kernel
theorem dX9_takeNumber_16 : decode cX9_takeNumber 16 = .ok (.iconst 2, 1) := by decide +kernel
theorem dX9_takeNumber_17 : decode cX9_takeNumber 17 = .ok (.if_icmp .eq 11, 3) := by decide +kernel
theorem dX9_takeNumber_20 : decode cX9_takeNumber 20 = .ok (.aload_n 0, 1) := by decide +kernel
theorem dX9_takeNumber_21 : decode cX9_takeNumber 21 = .ok (.iconst 1, 1) := by decide +kernel
theorem dX9_takeNumber_22 : decode cX9_takeNumber 22 = .ok (.invokevirtual 173, 3) := by decide +kernel
theorem dX9_takeNumber_25 : decode cX9_takeNumber 25 = .ok (.goto 45, 3) := by decide +kernel
theorem dX9_takeNumber_28 : decode cX9_takeNumber 28 = .ok (.aload_n 0, 1) := by decide +kernel
theorem dX9_takeNumber_29 : decode cX9_takeNumber 29 = .ok (.getfield 167, 3) := by decide +kernel
theorem dX9_takeNumber_32 : decode cX9_takeNumber 32 = .ok (.ifCond .ne 38, 3) := by decide +kernel
theorem dX9_takeNumber_35 : decode cX9_takeNumber 35 = .ok (.aload_n 0, 1) := by decide +kernel
theorem dX9_takeNumber_36 : decode cX9_takeNumber 36 = .ok (.getfield 30, 3) := by decide +kernel
theorem dX9_takeNumber_39 : decode cX9_takeNumber 39 = .ok (.aload_n 0, 1) := by decide +kernel
theorem dX9_takeNumber_40 : decode cX9_takeNumber 40 = .ok (.getfield 164, 3) := by decide +kernel
theorem dX9_takeNumber_43 : decode cX9_takeNumber 43 = .ok (.laload, 1) := by decide +kernel
theorem dX9_takeNumber_44 : decode cX9_takeNumber 44 = .ok (.iload_n 1, 1) := by decide +kernel
theorem dX9_takeNumber_45 : decode cX9_takeNumber 45 = .ok (.i2l, 1) := by decide +kernel
theorem dX9_takeNumber_46 : decode cX9_takeNumber 46 = .ok (.lcmp, 1) := by decide +kernel
theorem dX9_takeNumber_47 : decode cX9_takeNumber 47 = .ok (.ifCond .lt 18, 3) := by decide +kernel
theorem dX9_takeNumber_50 : decode cX9_takeNumber 50 = .ok (.aload_n 0, 1) := by decide +kernel
theorem dX9_takeNumber_51 : decode cX9_takeNumber 51 = .ok (.getfield 30, 3) := by decide +kernel
theorem dX9_takeNumber_54 : decode cX9_takeNumber 54 = .ok (.aload_n 0, 1) := by decide +kernel
theorem dX9_takeNumber_55 : decode cX9_takeNumber 55 = .ok (.getfield 164, 3) := by decide +kernel
theorem dX9_takeNumber_58 : decode cX9_takeNumber 58 = .ok (.laload, 1) := by decide +kernel
theorem dX9_takeNumber_59 : decode cX9_takeNumber 59 = .ok (.iload_n 2, 1) := by decide +kernel
theorem dX9_takeNumber_60 : decode cX9_takeNumber 60 = .ok (.i2l, 1) := by decide +kernel
theorem dX9_takeNumber_61 : decode cX9_takeNumber 61 = .ok (.lcmp, 1) := by decide +kernel
theorem dX9_takeNumber_62 : decode cX9_takeNumber 62 = .ok (.ifCond .le 8, 3) := by decide +kernel
theorem dX9_takeNumber_65 : decode cX9_takeNumber 65 = .ok (.aload_n 0, 1) := by decide +kernel
theorem dX9_takeNumber_66 : decode cX9_takeNumber 66 = .ok (.iconst 4, 1) := by decide +kernel
theorem dX9_takeNumber_67 : decode cX9_takeNumber 67 = .ok (.invokevirtual 173, 3) := by decide +kernel
theorem dX9_takeNumber_70 : decode cX9_takeNumber 70 = .ok (.aload_n 0, 1) := by decide +kernel
theorem dX9_takeNumber_71 : decode cX9_takeNumber 71 = .ok (.dup, 1) := by decide +kernel
theorem dX9_takeNumber_72 : decode cX9_takeNumber 72 = .ok (.getfield 164, 3) := by decide +kernel
theorem dX9_takeNumber_75 : decode cX9_takeNumber 75 = .ok (.iconst 1, 1) := by decide +kernel
theorem dX9_takeNumber_76 : decode cX9_takeNumber 76 = .ok (.iadd, 1) := by decide +kernel
theorem dX9_takeNumber_77 : decode cX9_takeNumber 77 = .ok (.putfield 164, 3) := by decide +kernel
theorem dX9_takeNumber_80 : decode cX9_takeNumber 80 = .ok (.aload_n 0, 1) := by decide +kernel
theorem dX9_takeNumber_81 : decode cX9_takeNumber 81 = .ok (.getfield 167, 3) := by decide +kernel
theorem dX9_takeNumber_84 : decode cX9_takeNumber 84 = .ok (.ifCond .le 7, 3) := by decide +kernel
theorem dX9_takeNumber_87 : decode cX9_takeNumber 87 = .ok (.iconst 0, 1) := by decide +kernel
theorem dX9_takeNumber_88 : decode cX9_takeNumber 88 = .ok (.goto 15, 3) := by decide +kernel
theorem dX9_takeNumber_91 : decode cX9_takeNumber 91 = .ok (.aload_n 0, 1) := by decide +kernel
theorem dX9_takeNumber_92 : decode cX9_takeNumber 92 = .ok (.getfield 30, 3) := by decide +kernel
theorem dX9_takeNumber_95 : decode cX9_takeNumber 95 = .ok (.aload_n 0, 1) := by decide +kernel
theorem dX9_takeNumber_96 : decode cX9_takeNumber 96 = .ok (.getfield 164, 3) := by decide +kernel
theorem dX9_takeNumber_99 : decode cX9_takeNumber 99 = .ok (.iconst 1, 1) := by decide +kernel
theorem dX9_takeNumber_100 : decode cX9_takeNumber 100 = .ok (.isub, 1) := by decide +kernel
theorem dX9_takeNumber_101 : decode cX9_takeNumber 101 = .ok (.laload, 1) := by decide +kernel
theorem dX9_takeNumber_102 : decode cX9_takeNumber 102 = .ok (.l2i, 1) := by decide +kernel
theorem dX9_takeNumber_103 : decode cX9_takeNumber 103 = .ok (.ireturn, 1) := by decide +kernel
theorem dX9_takeSign_0 : decode cX9_takeSign 0 = .ok (.aload_n 0, 1) := by decide +kernel
theorem dX9_takeSign_1 : decode cX9_takeSign 1 = .ok (.iload_n 1, 1) := by decide +kernel
theorem dX9_takeSign_2 : decode cX9_takeSign 2 = .ok (.invokevirtual 170, 3) := by decide +kernel
theorem dX9_takeSign_5 : decode cX9_takeSign 5 = .ok (.ifCond .eq 16, 3) := by decide +kernel
theorem dX9_takeSign_8 : decode cX9_takeSign 8 = .ok (.aload_n 0, 1) := by decide +kernel
theorem dX9_takeSign_9 : decode cX9_takeSign 9 = .ok (.dup, 1) := by decide +kernel
theorem dX9_takeSign_10 : decode cX9_takeSign 10 = .ok (.getfield 164, 3) := by decide +kernel
theorem dX9_takeSign_13 : decode cX9_takeSign 13 = .ok (.iconst 1, 1) := by decide +kernel
theorem dX9_takeSign_14 : decode cX9_takeSign 14 = .ok (.iadd, 1) := by decide +kernel
theorem dX9_takeSign_15 : decode cX9_takeSign 15 = .ok (.putfield 164, 3) := by decide +kernel
theorem dX9_takeSign_18 : decode cX9_takeSign 18 = .ok (.goto 8, 3) := by decide +kernel
theorem dX9_takeSign_21 : decode cX9_takeSign 21 = .ok (.aload_n 0, 1) := by decide +kernel
theorem dX9_takeSign_22 : decode cX9_takeSign 22 = .ok (.iconst 1, 1) := by decide +kernel
theorem dX9_takeSign_23 : decode cX9_takeSign 23 = .ok (.invokevirtual 173, 3) := by decide +kernel
theorem dX9_takeSign_26 : decode cX9_takeSign 26 = .ok (.return_, 1) := by decide +kernel
theorem dX9_thrown_0 : decode cX9_thrown 0 = .ok (.aload_n 0, 1) := by decide +kernel
theorem dX9_thrown_1 : decode cX9_thrown 1 = .ok (.getfield 1, 3) := by decide +kernel
theorem dX9_thrown_4 : decode cX9_thrown 4 = .ok (.ireturn, 1) := by decide +kernel
theorem dX9_wind_0 : decode cX9_wind 0 = .ok (.aload_n 0, 1) := by decide +kernel
theorem dX9_wind_1 : decode cX9_wind 1 = .ok (.iconst 0, 1) := by decide +kernel
theorem dX9_wind_2 : decode cX9_wind 2 = .ok (.putfield 1, 3) := by decide +kernel
theorem dX9_wind_5 : decode cX9_wind 5 = .ok (.iload_n 1, 1) := by decide +kernel
theorem dX9_wind_6 : decode cX9_wind 6 = .ok (.ifCond .lt 38, 3) := by decide +kernel
theorem dX9_wind_9 : decode cX9_wind 9 = .ok (.iload_n 1, 1) := by decide +kernel
theorem dX9_wind_10 : decode cX9_wind 10 = .ok (.ldc 238, 2) := by decide +kernel
theorem dX9_wind_12 : decode cX9_wind 12 = .ok (.if_icmp .gt 32, 3) := by decide +kernel
theorem dX9_wind_15 : decode cX9_wind 15 = .ok (.iload_n 2, 1) := by decide +kernel
theorem dX9_wind_16 : decode cX9_wind 16 = .ok (.ifCond .lt 28, 3) := by decide +kernel
theorem dX9_wind_19 : decode cX9_wind 19 = .ok (.iload_n 2, 1) := by decide +kernel
theorem dX9_wind_20 : decode cX9_wind 20 = .ok (.bipush 31, 2) := by decide +kernel
theorem dX9_wind_22 : decode cX9_wind 22 = .ok (.if_icmp .gt 22, 3) := by decide +kernel
theorem dX9_wind_25 : decode cX9_wind 25 = .ok (.iload_n 3, 1) := by decide +kernel
theorem dX9_wind_26 : decode cX9_wind 26 = .ok (.ifCond .lt 18, 3) := by decide +kernel
theorem dX9_wind_29 : decode cX9_wind 29 = .ok (.iload_n 3, 1) := by decide +kernel
theorem dX9_wind_30 : decode cX9_wind 30 = .ok (.bipush 12, 2) := by decide +kernel
theorem dX9_wind_32 : decode cX9_wind 32 = .ok (.if_icmp .gt 12, 3) := by decide +kernel
theorem dX9_wind_35 : decode cX9_wind 35 = .ok (.aload_n 0, 1) := by decide +kernel
theorem dX9_wind_36 : decode cX9_wind 36 = .ok (.getfield 239, 3) := by decide +kernel
theorem dX9_wind_39 : decode cX9_wind 39 = .ok (.bipush 60, 2) := by decide +kernel
theorem dX9_wind_41 : decode cX9_wind 41 = .ok (.if_icmp .ne 5, 3) := by decide +kernel
theorem dX9_wind_44 : decode cX9_wind 44 = .ok (.iconst 0, 1) := by decide +kernel
theorem dX9_wind_45 : decode cX9_wind 45 = .ok (.ireturn, 1) := by decide +kernel
theorem dX9_wind_46 : decode cX9_wind 46 = .ok (.aload_n 0, 1) := by decide +kernel
theorem dX9_wind_47 : decode cX9_wind 47 = .ok (.getfield 110, 3) := by decide +kernel
theorem dX9_wind_50 : decode cX9_wind 50 = .ok (.aload_n 0, 1) := by decide +kernel
theorem dX9_wind_51 : decode cX9_wind 51 = .ok (.getfield 239, 3) := by decide +kernel
theorem dX9_wind_54 : decode cX9_wind 54 = .ok (.iload_n 1, 1) := by decide +kernel
theorem dX9_wind_55 : decode cX9_wind 55 = .ok (.iastore, 1) := by decide +kernel
theorem dX9_wind_56 : decode cX9_wind 56 = .ok (.aload_n 0, 1) := by decide +kernel
theorem dX9_wind_57 : decode cX9_wind 57 = .ok (.getfield 113, 3) := by decide +kernel
theorem dX9_wind_60 : decode cX9_wind 60 = .ok (.aload_n 0, 1) := by decide +kernel
theorem dX9_wind_61 : decode cX9_wind 61 = .ok (.getfield 239, 3) := by decide +kernel
theorem dX9_wind_64 : decode cX9_wind 64 = .ok (.iload_n 2, 1) := by decide +kernel
theorem dX9_wind_65 : decode cX9_wind 65 = .ok (.iastore, 1) := by decide +kernel
theorem dX9_wind_66 : decode cX9_wind 66 = .ok (.aload_n 0, 1) := by decide +kernel
theorem dX9_wind_67 : decode cX9_wind 67 = .ok (.getfield 116, 3) := by decide +kernel
theorem dX9_wind_70 : decode cX9_wind 70 = .ok (.aload_n 0, 1) := by decide +kernel
theorem dX9_wind_71 : decode cX9_wind 71 = .ok (.getfield 239, 3) := by decide +kernel
theorem dX9_wind_74 : decode cX9_wind 74 = .ok (.iload_n 3, 1) := by decide +kernel
theorem dX9_wind_75 : decode cX9_wind 75 = .ok (.iastore, 1) := by decide +kernel
theorem dX9_wind_76 : decode cX9_wind 76 = .ok (.aload_n 0, 1) := by decide +kernel
theorem dX9_wind_77 : decode cX9_wind 77 = .ok (.dup, 1) := by decide +kernel
theorem dX9_wind_78 : decode cX9_wind 78 = .ok (.getfield 239, 3) := by decide +kernel
theorem dX9_wind_81 : decode cX9_wind 81 = .ok (.iconst 1, 1) := by decide +kernel
theorem dX9_wind_82 : decode cX9_wind 82 = .ok (.iadd, 1) := by decide +kernel
theorem dX9_wind_83 : decode cX9_wind 83 = .ok (.putfield 239, 3) := by decide +kernel
theorem dX9_wind_86 : decode cX9_wind 86 = .ok (.iconst 1, 1) := by decide +kernel
theorem dX9_wind_87 : decode cX9_wind 87 = .ok (.ireturn, 1) := by decide +kernel
theorem dX9_windNow_0 : decode cX9_windNow 0 = .ok (.iconst (-1), 1) := by decide +kernel
theorem dX9_windNow_1 : decode cX9_windNow 1 = .ok (.istore_n 1, 1) := by decide +kernel
theorem dX9_windNow_2 : decode cX9_windNow 2 = .ok (.iconst 0, 1) := by decide +kernel
theorem dX9_windNow_3 : decode cX9_windNow 3 = .ok (.istore_n 2, 1) := by decide +kernel
theorem dX9_windNow_4 : decode cX9_windNow 4 = .ok (.iload_n 2, 1) := by decide +kernel
theorem dX9_windNow_5 : decode cX9_windNow 5 = .ok (.aload_n 0, 1) := by decide +kernel
theorem dX9_windNow_6 : decode cX9_windNow 6 = .ok (.getfield 239, 3) := by decide +kernel
theorem dX9_windNow_9 : decode cX9_windNow 9 = .ok (.if_icmp .ge 47, 3) := by decide +kernel
theorem dX9_windNow_12 : decode cX9_windNow 12 = .ok (.aload_n 0, 1) := by decide +kernel
theorem dX9_windNow_13 : decode cX9_windNow 13 = .ok (.getfield 110, 3) := by decide +kernel
theorem dX9_windNow_16 : decode cX9_windNow 16 = .ok (.iload_n 2, 1) := by decide +kernel
theorem dX9_windNow_17 : decode cX9_windNow 17 = .ok (.iaload, 1) := by decide +kernel
theorem dX9_windNow_18 : decode cX9_windNow 18 = .ok (.aload_n 0, 1) := by decide +kernel
theorem dX9_windNow_19 : decode cX9_windNow 19 = .ok (.getfield 242, 3) := by decide +kernel
theorem dX9_windNow_22 : decode cX9_windNow 22 = .ok (.if_icmp .gt 26, 3) := by decide +kernel
theorem dX9_windNow_25 : decode cX9_windNow 25 = .ok (.iload_n 1, 1) := by decide +kernel
theorem dX9_windNow_26 : decode cX9_windNow 26 = .ok (.ifCond .lt 18, 3) := by decide +kernel
theorem dX9_windNow_29 : decode cX9_windNow 29 = .ok (.aload_n 0, 1) := by decide +kernel
theorem dX9_windNow_30 : decode cX9_windNow 30 = .ok (.getfield 110, 3) := by decide +kernel
theorem dX9_windNow_33 : decode cX9_windNow 33 = .ok (.iload_n 2, 1) := by decide +kernel
theorem dX9_windNow_34 : decode cX9_windNow 34 = .ok (.iaload, 1) := by decide +kernel
theorem dX9_windNow_35 : decode cX9_windNow 35 = .ok (.aload_n 0, 1) := by decide +kernel
theorem dX9_windNow_36 : decode cX9_windNow 36 = .ok (.getfield 110, 3) := by decide +kernel
theorem dX9_windNow_39 : decode cX9_windNow 39 = .ok (.iload_n 1, 1) := by decide +kernel
theorem dX9_windNow_40 : decode cX9_windNow 40 = .ok (.iaload, 1) := by decide +kernel
theorem dX9_windNow_41 : decode cX9_windNow 41 = .ok (.if_icmp .lt 7, 3) := by decide +kernel
theorem dX9_windNow_44 : decode cX9_windNow 44 = .ok (.iload_n 2, 1) := by decide +kernel
theorem dX9_windNow_45 : decode cX9_windNow 45 = .ok (.goto 4, 3) := by decide +kernel
theorem dX9_windNow_48 : decode cX9_windNow 48 = .ok (.iload_n 1, 1) := by decide +kernel
theorem dX9_windNow_49 : decode cX9_windNow 49 = .ok (.istore_n 1, 1) := by decide +kernel
theorem dX9_windNow_50 : decode cX9_windNow 50 = .ok (.iinc 2 1, 3) := by decide +kernel
theorem dX9_windNow_53 : decode cX9_windNow 53 = .ok (.goto (-49), 3) := by decide +kernel
theorem dX9_windNow_56 : decode cX9_windNow 56 = .ok (.iload_n 1, 1) := by decide +kernel
theorem dX9_windNow_57 : decode cX9_windNow 57 = .ok (.ireturn, 1) := by decide +kernel
theorem dX9_wrong_0 : decode cX9_wrong 0 = .ok (.aload_n 0, 1) := by decide +kernel
theorem dX9_wrong_1 : decode cX9_wrong 1 = .ok (.getfield 167, 3) := by decide +kernel
theorem dX9_wrong_4 : decode cX9_wrong 4 = .ok (.ifCond .ne 21, 3) := by decide +kernel
theorem dX9_wrong_7 : decode cX9_wrong 7 = .ok (.aload_n 0, 1) := by decide +kernel
theorem dX9_wrong_8 : decode cX9_wrong 8 = .ok (.iload_n 1, 1) := by decide +kernel
theorem dX9_wrong_9 : decode cX9_wrong 9 = .ok (.bipush 16, 2) := by decide +kernel
theorem dX9_wrong_11 : decode cX9_wrong 11 = .ok (.aload_n 0, 1) := by decide +kernel
theorem dX9_wrong_12 : decode cX9_wrong 12 = .ok (.getfield 27, 3) := by decide +kernel
theorem dX9_wrong_15 : decode cX9_wrong 15 = .ok (.aload_n 0, 1) := by decide +kernel
theorem dX9_wrong_16 : decode cX9_wrong 16 = .ok (.getfield 164, 3) := by decide +kernel
theorem dX9_wrong_19 : decode cX9_wrong 19 = .ok (.iaload, 1) := by decide +kernel
theorem dX9_wrong_20 : decode cX9_wrong 20 = .ok (.imul, 1) := by decide +kernel
theorem dX9_wrong_21 : decode cX9_wrong 21 = .ok (.iadd, 1) := by decide +kernel
theorem dX9_wrong_22 : decode cX9_wrong 22 = .ok (.putfield 167, 3) := by decide +kernel
theorem dX9_wrong_25 : decode cX9_wrong 25 = .ok (.return_, 1) := by decide +kernel
