theorem dX8_rope_78 : decode cX8_rope 78 = .ok (.ireturn, 1) := by decide +kernel
theorem dX8_rope_79 : decode cX8_rope 79 = .ok (.iconst (-1), 1) := by decide +kernel
theorem dX8_rope_80 : decode cX8_rope 80 = .ok (.ireturn, 1) := by decide +kernel
theorem dX8_sail_0 : decode cX8_sail 0 = .ok (.iload_n 1, 1) := by decide +kernel
theorem dX8_sail_1 : decode cX8_sail 1 = .ok (.ifCond .lt 9, 3) := by decide +kernel
theorem dX8_sail_4 : decode cX8_sail 4 = .ok (.iload_n 1, 1) := by decide +kernel
theorem dX8_sail_5 : decode cX8_sail 5 = .ok (.bipush 9, 2) := by decide +kernel
theorem dX8_sail_7 : decode cX8_sail 7 = .ok (.if_icmp .lt 5, 3) := by decide +kernel
theorem dX8_sail_10 : decode cX8_sail 10 = .ok (.iconst (-1), 1) := by decide +kernel
theorem dX8_sail_11 : decode cX8_sail 11 = .ok (.ireturn, 1) := by decide +kernel
theorem dX8_sail_12 : decode cX8_sail 12 = .ok (.iload_n 2, 1) := by decide +kernel
theorem dX8_sail_13 : decode cX8_sail 13 = .ok (.lookupswitch 56 #[(0, 27), (1, 37)], 27) := by decide +kernel
theorem dX8_sail_40 : decode cX8_sail 40 = .ok (.aload_n 0, 1) := by decide +kernel
theorem dX8_sail_41 : decode cX8_sail 41 = .ok (.getfield 10, 3) := by decide +kernel
theorem dX8_sail_44 : decode cX8_sail 44 = .ok (.getfield 97, 3) := by decide +kernel
theorem dX8_sail_47 : decode cX8_sail 47 = .ok (.iload_n 1, 1) := by decide +kernel
theorem dX8_sail_48 : decode cX8_sail 48 = .ok (.iaload, 1) := by decide +kernel
theorem dX8_sail_49 : decode cX8_sail 49 = .ok (.ireturn, 1) := by decide +kernel
theorem dX8_sail_50 : decode cX8_sail 50 = .ok (.aload_n 0, 1) := by decide +kernel
theorem dX8_sail_51 : decode cX8_sail 51 = .ok (.getfield 10, 3) := by decide +kernel
theorem dX8_sail_54 : decode cX8_sail 54 = .ok (.getfield 100, 3) := by decide +kernel
theorem dX8_sail_57 : decode cX8_sail 57 = .ok (.iload_n 1, 1) := by decide +kernel
theorem dX8_sail_58 : decode cX8_sail 58 = .ok (.iaload, 1) := by decide +kernel
theorem dX8_sail_59 : decode cX8_sail 59 = .ok (.iconst (-1), 1) := by decide +kernel
theorem dX8_sail_60 : decode cX8_sail 60 = .ok (.if_icmp .ne 7, 3) := by decide +kernel
theorem dX8_sail_63 : decode cX8_sail 63 = .ok (.iconst 0, 1) := by decide +kernel
theorem dX8_sail_64 : decode cX8_sail 64 = .ok (.goto 4, 3) := by decide +kernel
theorem dX8_sail_67 : decode cX8_sail 67 = .ok (.iconst 1, 1) := by decide +kernel
theorem dX8_sail_68 : decode cX8_sail 68 = .ok (.ireturn, 1) := by decide +kernel
theorem dX8_sail_69 : decode cX8_sail 69 = .ok (.iconst (-1), 1) := by decide +kernel
theorem dX8_sail_70 : decode cX8_sail 70 = .ok (.ireturn, 1) := by decide +kernel
theorem dX8_strainSails_0 : decode cX8_strainSails 0 = .ok (.iconst 0, 1) := by decide +kernel
theorem dX8_strainSails_1 : decode cX8_strainSails 1 = .ok (.istore_n 2, 1) := by decide +kernel
theorem dX8_strainSails_2 : decode cX8_strainSails 2 = .ok (.iload_n 2, 1) := by decide +kernel
theorem dX8_strainSails_3 : decode cX8_strainSails 3 = .ok (.bipush 9, 2) := by decide +kernel
theorem dX8_strainSails_5 : decode cX8_strainSails 5 = .ok (.if_icmp .ge 67, 3) := by decide +kernel
theorem dX8_strainSails_8 : decode cX8_strainSails 8 = .ok (.aload_n 0, 1) := by decide +kernel
theorem dX8_strainSails_9 : decode cX8_strainSails 9 = .ok (.getfield 10, 3) := by decide +kernel
theorem dX8_strainSails_12 : decode cX8_strainSails 12 = .ok (.getfield 100, 3) := by decide +kernel
theorem dX8_strainSails_15 : decode cX8_strainSails 15 = .ok (.iload_n 2, 1) := by decide +kernel
theorem dX8_strainSails_16 : decode cX8_strainSails 16 = .ok (.iaload, 1) := by decide +kernel
theorem dX8_strainSails_17 : decode cX8_strainSails 17 = .ok (.istore_n 3, 1) := by decide +kernel
theorem dX8_strainSails_18 : decode cX8_strainSails 18 = .ok (.aload_n 0, 1) := by decide +kernel
theorem dX8_strainSails_19 : decode cX8_strainSails 19 = .ok (.getfield 10, 3) := by decide +kernel
theorem dX8_strainSails_22 : decode cX8_strainSails 22 = .ok (.getfield 97, 3) := by decide +kernel
theorem dX8_strainSails_25 : decode cX8_strainSails 25 = .ok (.iload_n 2, 1) := by decide +kernel
theorem dX8_strainSails_26 : decode cX8_strainSails 26 = .ok (.iaload, 1) := by decide +kernel
theorem dX8_strainSails_27 : decode cX8_strainSails 27 = .ok (.iconst 1, 1) := by decide +kernel
theorem dX8_strainSails_28 : decode cX8_strainSails 28 = .ok (.if_icmp .ne 38, 3) := by decide +kernel
theorem dX8_strainSails_31 : decode cX8_strainSails 31 = .ok (.aload_n 0, 1) := by decide +kernel
theorem dX8_strainSails_32 : decode cX8_strainSails 32 = .ok (.getfield 10, 3) := by decide +kernel
theorem dX8_strainSails_35 : decode cX8_strainSails 35 = .ok (.iload_n 2, 1) := by decide +kernel
theorem dX8_strainSails_36 : decode cX8_strainSails 36 = .ok (.aload_n 0, 1) := by decide +kernel
theorem dX8_strainSails_37 : decode cX8_strainSails 37 = .ok (.getfield 19, 3) := by decide +kernel
theorem dX8_strainSails_40 : decode cX8_strainSails 40 = .ok (.getfield 171, 3) := by decide +kernel
theorem dX8_strainSails_43 : decode cX8_strainSails 43 = .ok (.iload_n 1, 1) := by decide +kernel
theorem dX8_strainSails_44 : decode cX8_strainSails 44 = .ok (.invokevirtual 307, 3) := by decide +kernel
theorem dX8_strainSails_47 : decode cX8_strainSails 47 = .ok (.ifCond .eq 19, 3) := by decide +kernel
theorem dX8_strainSails_50 : decode cX8_strainSails 50 = .ok (.aload_n 0, 1) := by decide +kernel
theorem dX8_strainSails_51 : decode cX8_strainSails 51 = .ok (.getfield 10, 3) := by decide +kernel
theorem dX8_strainSails_54 : decode cX8_strainSails 54 = .ok (.iload_n 2, 1) := by decide +kernel
theorem dX8_strainSails_55 : decode cX8_strainSails 55 = .ok (.invokevirtual 311, 3) := by decide +kernel
theorem dX8_strainSails_58 : decode cX8_strainSails 58 = .ok (.aload_n 0, 1) := by decide +kernel
theorem dX8_strainSails_59 : decode cX8_strainSails 59 = .ok (.getfield 65, 3) := by decide +kernel
theorem dX8_strainSails_62 : decode cX8_strainSails 62 = .ok (.iload_n 3, 1) := by decide +kernel
theorem dX8_strainSails_63 : decode cX8_strainSails 63 = .ok (.invokevirtual 238, 3) := by decide +kernel
theorem dX8_strainSails_66 : decode cX8_strainSails 66 = .ok (.iinc 2 1, 3) := by decide +kernel
theorem dX8_strainSails_69 : decode cX8_strainSails 69 = .ok (.goto (-67), 3) := by decide +kernel
theorem dX8_strainSails_72 : decode cX8_strainSails 72 = .ok (.return_, 1) := by decide +kernel
theorem dX8_weighParts_0 : decode cX8_weighParts 0 = .ok (.aload_n 0, 1) := by decide +kernel
theorem dX8_weighParts_1 : decode cX8_weighParts 1 = .ok (.getfield 19, 3) := by decide +kernel
theorem dX8_weighParts_4 : decode cX8_weighParts 4 = .ok (.getfield 168, 3) := by decide +kernel
theorem dX8_weighParts_7 : decode cX8_weighParts 7 = .ok (.aload_n 0, 1) := by decide +kernel
theorem dX8_weighParts_8 : decode cX8_weighParts 8 = .ok (.getfield 138, 3) := by decide +kernel
theorem dX8_weighParts_11 : decode cX8_weighParts 11 = .ok (.invokestatic 199, 3) := by decide +kernel
theorem dX8_weighParts_14 : decode cX8_weighParts 14 = .ok (.invokestatic 208, 3) := by decide +kernel
theorem dX8_weighParts_17 : decode cX8_weighParts 17 = .ok (.istore_n 1, 1) := by decide +kernel
theorem dX8_weighParts_18 : decode cX8_weighParts 18 = .ok (.aload_n 0, 1) := by decide +kernel
theorem dX8_weighParts_19 : decode cX8_weighParts 19 = .ok (.getfield 48, 3) := by decide +kernel
theorem dX8_weighParts_22 : decode cX8_weighParts 22 = .ok (.iconst 0, 1) := by decide +kernel
theorem dX8_weighParts_23 : decode cX8_weighParts 23 = .ok (.iconst 1, 1) := by decide +kernel
theorem dX8_weighParts_24 : decode cX8_weighParts 24 = .ok (.iastore, 1) := by decide +kernel
theorem dX8_weighParts_25 : decode cX8_weighParts 25 = .ok (.aload_n 0, 1) := by decide +kernel
theorem dX8_weighParts_26 : decode cX8_weighParts 26 = .ok (.getfield 48, 3) := by decide +kernel
theorem dX8_weighParts_29 : decode cX8_weighParts 29 = .ok (.iconst 1, 1) := by decide +kernel
theorem dX8_weighParts_30 : decode cX8_weighParts 30 = .ok (.aload_n 0, 1) := by decide +kernel
theorem dX8_weighParts_31 : decode cX8_weighParts 31 = .ok (.getfield 19, 3) := by decide +kernel
theorem dX8_weighParts_34 : decode cX8_weighParts 34 = .ok (.getfield 171, 3) := by decide +kernel
theorem dX8_weighParts_37 : decode cX8_weighParts 37 = .ok (.iastore, 1) := by decide +kernel
theorem dX8_weighParts_38 : decode cX8_weighParts 38 = .ok (.aload_n 0, 1) := by decide +kernel
theorem dX8_weighParts_39 : decode cX8_weighParts 39 = .ok (.getfield 48, 3) := by decide +kernel
theorem dX8_weighParts_42 : decode cX8_weighParts 42 = .ok (.iconst 2, 1) := by decide +kernel
theorem dX8_weighParts_43 : decode cX8_weighParts 43 = .ok (.aload_n 0, 1) := by decide +kernel
theorem dX8_weighParts_44 : decode cX8_weighParts 44 = .ok (.getfield 19, 3) := by decide +kernel
theorem dX8_weighParts_47 : decode cX8_weighParts 47 = .ok (.getfield 168, 3) := by decide +kernel
theorem dX8_weighParts_50 : decode cX8_weighParts 50 = .ok (.iastore, 1) := by decide +kernel
theorem dX8_weighParts_51 : decode cX8_weighParts 51 = .ok (.aload_n 0, 1) := by decide +kernel
theorem dX8_weighParts_52 : decode cX8_weighParts 52 = .ok (.getfield 48, 3) := by decide +kernel
theorem dX8_weighParts_55 : decode cX8_weighParts 55 = .ok (.iconst 3, 1) := by decide +kernel
theorem dX8_weighParts_56 : decode cX8_weighParts 56 = .ok (.iload_n 1, 1) := by decide +kernel
theorem dX8_weighParts_57 : decode cX8_weighParts 57 = .ok (.ifCond .eq 7, 3) := by decide +kernel
theorem dX8_weighParts_60 : decode cX8_weighParts 60 = .ok (.iconst 1, 1) := by decide +kernel
theorem dX8_weighParts_61 : decode cX8_weighParts 61 = .ok (.goto 4, 3) := by decide +kernel
theorem dX8_weighParts_64 : decode cX8_weighParts 64 = .ok (.iconst 0, 1) := by decide +kernel
theorem dX8_weighParts_65 : decode cX8_weighParts 65 = .ok (.iastore, 1) := by decide +kernel
theorem dX8_weighParts_66 : decode cX8_weighParts 66 = .ok (.aload_n 0, 1) := by decide +kernel
theorem dX8_weighParts_67 : decode cX8_weighParts 67 = .ok (.getfield 48, 3) := by decide +kernel
theorem dX8_weighParts_70 : decode cX8_weighParts 70 = .ok (.iconst 4, 1) := by decide +kernel
theorem dX8_weighParts_71 : decode cX8_weighParts 71 = .ok (.aload_n 0, 1) := by decide +kernel
theorem dX8_weighParts_72 : decode cX8_weighParts 72 = .ok (.getfield 144, 3) := by decide +kernel
theorem dX8_weighParts_75 : decode cX8_weighParts 75 = .ok (.iastore, 1) := by decide +kernel
theorem dX8_weighParts_76 : decode cX8_weighParts 76 = .ok (.aload_n 0, 1) := by decide +kernel
theorem dX8_weighParts_77 : decode cX8_weighParts 77 = .ok (.getfield 48, 3) := by decide +kernel
theorem dX8_weighParts_80 : decode cX8_weighParts 80 = .ok (.iconst 5, 1) := by decide +kernel
theorem dX8_weighParts_81 : decode cX8_weighParts 81 = .ok (.aload_n 0, 1) := by decide +kernel
theorem dX8_weighParts_82 : decode cX8_weighParts 82 = .ok (.getfield 138, 3) := by decide +kernel
theorem dX8_weighParts_85 : decode cX8_weighParts 85 = .ok (.iastore, 1) := by decide +kernel
theorem dX8_weighParts_86 : decode cX8_weighParts 86 = .ok (.aload_n 0, 1) := by decide +kernel
theorem dX8_weighParts_87 : decode cX8_weighParts 87 = .ok (.getfield 48, 3) := by decide +kernel
theorem dX8_weighParts_90 : decode cX8_weighParts 90 = .ok (.bipush 6, 2) := by decide +kernel
theorem dX8_weighParts_92 : decode cX8_weighParts 92 = .ok (.aload_n 0, 1) := by decide +kernel
theorem dX8_weighParts_93 : decode cX8_weighParts 93 = .ok (.getfield 94, 3) := by decide +kernel
theorem dX8_weighParts_96 : decode cX8_weighParts 96 = .ok (.bipush 60, 2) := by decide +kernel
theorem dX8_weighParts_98 : decode cX8_weighParts 98 = .ok (.idiv, 1) := by decide +kernel
theorem dX8_weighParts_99 : decode cX8_weighParts 99 = .ok (.bipush 24, 2) := by decide +kernel
theorem dX8_weighParts_101 : decode cX8_weighParts 101 = .ok (.irem, 1) := by decide +kernel
theorem dX8_weighParts_102 : decode cX8_weighParts 102 = .ok (.iastore, 1) := by decide +kernel
theorem dX8_weighParts_103 : decode cX8_weighParts 103 = .ok (.aload_n 0, 1) := by decide +kernel
theorem dX8_weighParts_104 : decode cX8_weighParts 104 = .ok (.getfield 48, 3) := by decide +kernel
theorem dX8_weighParts_107 : decode cX8_weighParts 107 = .ok (.bipush 7, 2) := by decide +kernel
theorem dX8_weighParts_109 : decode cX8_weighParts 109 = .ok (.aload_n 0, 1) := by decide +kernel
theorem dX8_weighParts_110 : decode cX8_weighParts 110 = .ok (.getfield 10, 3) := by decide +kernel
theorem dX8_weighParts_113 : decode cX8_weighParts 113 = .ok (.invokevirtual 247, 3) := by decide +kernel
theorem dX8_weighParts_116 : decode cX8_weighParts 116 = .ok (.iastore, 1) := by decide +kernel
theorem dX8_weighParts_117 : decode cX8_weighParts 117 = .ok (.return_, 1) := by decide +kernel
theorem dX8_wind_0 : decode cX8_wind 0 = .ok (.aload_n 0, 1) := by decide +kernel
theorem dX8_wind_1 : decode cX8_wind 1 = .ok (.getfield 19, 3) := by decide +kernel
theorem dX8_wind_4 : decode cX8_wind 4 = .ok (.iload_n 1, 1) := by decide +kernel
theorem dX8_wind_5 : decode cX8_wind 5 = .ok (.iload_n 2, 1) := by decide +kernel
theorem dX8_wind_6 : decode cX8_wind 6 = .ok (.iload_n 3, 1) := by decide +kernel
theorem dX8_wind_7 : decode cX8_wind 7 = .ok (.invokevirtual 87, 3) := by decide +kernel
theorem dX8_wind_10 : decode cX8_wind 10 = .ok (.ireturn, 1) := by decide +kernel
theorem dX9_apart_0 : decode cX9_apart 0 = .ok (.iload_n 0, 1) := by decide +kernel
theorem dX9_apart_1 : decode cX9_apart 1 = .ok (.iload_n 1, 1) := by decide +kernel
theorem dX9_apart_2 : decode cX9_apart 2 = .ok (.isub, 1) := by decide +kernel
theorem dX9_apart_3 : decode cX9_apart 3 = .ok (.bipush 31, 2) := by decide +kernel
theorem dX9_apart_5 : decode cX9_apart 5 = .ok (.iand, 1) := by decide +kernel
theorem dX9_apart_6 : decode cX9_apart 6 = .ok (.istore_n 2, 1) := by decide +kernel
theorem dX9_apart_7 : decode cX9_apart 7 = .ok (.iload_n 2, 1) := by decide +kernel
theorem dX9_apart_8 : decode cX9_apart 8 = .ok (.bipush 16, 2) := by decide +kernel
theorem dX9_apart_10 : decode cX9_apart 10 = .ok (.if_icmp .le 10, 3) := by decide +kernel
theorem dX9_apart_13 : decode cX9_apart 13 = .ok (.bipush 32, 2) := by decide +kernel
theorem dX9_apart_15 : decode cX9_apart 15 = .ok (.iload_n 2, 1) := by decide +kernel
theorem dX9_apart_16 : decode cX9_apart 16 = .ok (.isub, 1) := by decide +kernel
theorem dX9_apart_17 : decode cX9_apart 17 = .ok (.goto 4, 3) := by decide +kernel
theorem dX9_apart_20 : decode cX9_apart 20 = .ok (.iload_n 2, 1) := by decide +kernel
theorem dX9_apart_21 : decode cX9_apart 21 = .ok (.ireturn, 1) := by decide +kernel
theorem dX9_area_0 : decode cX9_area 0 = .ok (.iload_n 0, 1) := by decide +kernel
theorem dX9_area_1 : decode cX9_area 1 = .ok (.iconst 3, 1) := by decide +kernel
theorem dX9_area_2 : decode cX9_area 2 = .ok (.irem, 1) := by decide +kernel
theorem dX9_area_3 : decode cX9_area 3 = .ok (.ifCond .ne 8, 3) := by decide +kernel
theorem dX9_area_6 : decode cX9_area 6 = .ok (.bipush 6, 2) := by decide +kernel
theorem dX9_area_8 : decode cX9_area 8 = .ok (.goto 15, 3) := by decide +kernel
theorem dX9_area_11 : decode cX9_area 11 = .ok (.iload_n 0, 1) := by decide +kernel
theorem dX9_area_12 : decode cX9_area 12 = .ok (.iconst 3, 1) := by decide +kernel
theorem dX9_area_13 : decode cX9_area 13 = .ok (.irem, 1) := by decide +kernel
theorem dX9_area_14 : decode cX9_area 14 = .ok (.iconst 1, 1) := by decide +kernel
theorem dX9_area_15 : decode cX9_area 15 = .ok (.if_icmp .ne 7, 3) := by decide +kernel
theorem dX9_area_18 : decode cX9_area 18 = .ok (.iconst 5, 1) := by decide +kernel
theorem dX9_area_19 : decode cX9_area 19 = .ok (.goto 4, 3) := by decide +kernel
theorem dX9_area_22 : decode cX9_area 22 = .ok (.iconst 3, 1) := by decide +kernel
theorem dX9_area_23 : decode cX9_area 23 = .ok (.ireturn, 1) := by decide +kernel
theorem dX9_begins_0 : decode cX9_begins 0 = .ok (.aload_n 0, 1) := by decide +kernel
theorem dX9_begins_1 : decode cX9_begins 1 = .ok (.iload_n 1, 1) := by decide +kernel
theorem dX9_begins_2 : decode cX9_begins 2 = .ok (.iload_n 2, 1) := by decide +kernel
theorem dX9_begins_3 : decode cX9_begins 3 = .ok (.invokevirtual 255, 3) := by decide +kernel
theorem dX9_begins_6 : decode cX9_begins 6 = .ok (.ifCond .eq 5, 3) := by decide +kernel
theorem dX9_begins_9 : decode cX9_begins 9 = .ok (.iconst 0, 1) := by decide +kernel
theorem dX9_begins_10 : decode cX9_begins 10 = .ok (.ireturn, 1) := by decide +kernel
theorem dX9_begins_11 : decode cX9_begins 11 = .ok (.aload_n 0, 1) := by decide +kernel
theorem dX9_begins_12 : decode cX9_begins 12 = .ok (.iload_n 1, 1) := by decide +kernel
theorem dX9_begins_13 : decode cX9_begins 13 = .ok (.iload_n 2, 1) := by decide +kernel
theorem dX9_begins_14 : decode cX9_begins 14 = .ok (.iload_n 3, 1) := by decide +kernel
theorem dX9_begins_15 : decode cX9_begins 15 = .ok (.invokevirtual 258, 3) := by decide +kernel
theorem dX9_begins_18 : decode cX9_begins 18 = .ok (.ifCond .ne 5, 3) := by decide +kernel
theorem dX9_begins_21 : decode cX9_begins 21 = .ok (.iconst 1, 1) := by decide +kernel
theorem dX9_begins_22 : decode cX9_begins 22 = .ok (.ireturn, 1) := by decide +kernel
theorem dX9_begins_23 : decode cX9_begins 23 = .ok (.iconst 0, 1) := by decide +kernel
theorem dX9_begins_24 : decode cX9_begins 24 = .ok (.istore 4, 2) := by decide +kernel
theorem dX9_begins_26 : decode cX9_begins 26 = .ok (.iconst 0, 1) := by decide +kernel
theorem dX9_begins_27 : decode cX9_begins 27 = .ok (.istore 5, 2) := by decide +kernel
theorem dX9_begins_29 : decode cX9_begins 29 = .ok (.iload 5, 2) := by decide +kernel
theorem dX9_begins_31 : decode cX9_begins 31 = .ok (.aload_n 0, 1) := by decide +kernel
theorem dX9_begins_32 : decode cX9_begins 32 = .ok (.getfield 138, 3) := by decide +kernel
theorem dX9_begins_35 : decode cX9_begins 35 = .ok (.if_icmp .ge 38, 3) := by decide +kernel
theorem dX9_begins_38 : decode cX9_begins 38 = .ok (.iload 4, 2) := by decide +kernel
theorem dX9_begins_40 : decode cX9_begins 40 = .ok (.aload_n 0, 1) := by decide +kernel
theorem dX9_begins_41 : decode cX9_begins 41 = .ok (.getfield 95, 3) := by decide +kernel
theorem dX9_begins_44 : decode cX9_begins 44 = .ok (.iload 5, 2) := by decide +kernel
theorem dX9_begins_46 : decode cX9_begins 46 = .ok (.iaload, 1) := by decide +kernel
theorem dX9_begins_47 : decode cX9_begins 47 = .ok (.ifCond .ge 16, 3) := by decide +kernel
theorem dX9_begins_50 : decode cX9_begins 50 = .ok (.aload_n 0, 1) := by decide +kernel
theorem dX9_begins_51 : decode cX9_begins 51 = .ok (.iload 5, 2) := by decide +kernel
theorem dX9_begins_53 : decode cX9_begins 53 = .ok (.invokevirtual 262, 3) := by decide +kernel
theorem dX9_begins_56 : decode cX9_begins 56 = .ok (.ifCond .eq 7, 3) := by decide +kernel
theorem dX9_begins_59 : decode cX9_begins 59 = .ok (.iconst 1, 1) := by decide +kernel
theorem dX9_begins_60 : decode cX9_begins 60 = .ok (.goto 4, 3) := by decide +kernel
theorem dX9_begins_63 : decode cX9_begins 63 = .ok (.iconst 0, 1) := by decide +kernel
theorem dX9_begins_64 : decode cX9_begins 64 = .ok (.iadd, 1) := by decide +kernel
theorem dX9_begins_65 : decode cX9_begins 65 = .ok (.istore 4, 2) := by decide +kernel
theorem dX9_begins_67 : decode cX9_begins 67 = .ok (.iinc 5 1, 3) := by decide +kernel
theorem dX9_begins_70 : decode cX9_begins 70 = .ok (.goto (-41), 3) := by decide +kernel
theorem dX9_begins_73 : decode cX9_begins 73 = .ok (.iload_n 1, 1) := by decide +kernel
theorem dX9_begins_74 : decode cX9_begins 74 = .ok (.invokestatic 265, 3) := by decide +kernel
theorem dX9_begins_77 : decode cX9_begins 77 = .ok (.istore 5, 2) := by decide +kernel
theorem dX9_begins_79 : decode cX9_begins 79 = .ok (.iload 4, 2) := by decide +kernel
theorem dX9_begins_81 : decode cX9_begins 81 = .ok (.iload 5, 2) := by decide +kernel
theorem dX9_begins_83 : decode cX9_begins 83 = .ok (.if_icmp .ge 5, 3) := by decide +kernel
theorem dX9_begins_86 : decode cX9_begins 86 = .ok (.iconst 0, 1) := by decide +kernel
theorem dX9_begins_87 : decode cX9_begins 87 = .ok (.ireturn, 1) := by decide +kernel
theorem dX9_begins_88 : decode cX9_begins 88 = .ok (.iconst 0, 1) := by decide +kernel
theorem dX9_begins_89 : decode cX9_begins 89 = .ok (.istore 6, 2) := by decide +kernel
theorem dX9_begins_91 : decode cX9_begins 91 = .ok (.aload_n 0, 1) := by decide +kernel
theorem dX9_begins_92 : decode cX9_begins 92 = .ok (.getfield 98, 3) := by decide +kernel
theorem dX9_begins_95 : decode cX9_begins 95 = .ok (.iload 6, 2) := by decide +kernel
theorem dX9_begins_97 : decode cX9_begins 97 = .ok (.iaload, 1) := by decide +kernel
theorem dX9_begins_98 : decode cX9_begins 98 = .ok (.ifCond .le 9, 3) := by decide +kernel
theorem dX9_begins_101 : decode cX9_begins 101 = .ok (.iinc 6 1, 3) := by decide +kernel
theorem dX9_begins_104 : decode cX9_begins 104 = .ok (.goto (-13), 3) := by decide +kernel
theorem dX9_begins_107 : decode cX9_begins 107 = .ok (.iload_n 1, 1) := by decide +kernel
theorem dX9_begins_108 : decode cX9_begins 108 = .ok (.iconst 2, 1) := by decide +kernel
theorem dX9_begins_109 : decode cX9_begins 109 = .ok (.if_icmp .ne 35, 3) := by decide +kernel
theorem dX9_begins_112 : decode cX9_begins 112 = .ok (.aload_n 0, 1) := by decide +kernel
theorem dX9_begins_113 : decode cX9_begins 113 = .ok (.getfield 92, 3) := by decide +kernel
theorem dX9_begins_116 : decode cX9_begins 116 = .ok (.iload_n 2, 1) := by decide +kernel
theorem dX9_begins_117 : decode cX9_begins 117 = .ok (.iaload, 1) := by decide +kernel
theorem dX9_begins_118 : decode cX9_begins 118 = .ok (.iload_n 3, 1) := by decide +kernel
theorem dX9_begins_119 : decode cX9_begins 119 = .ok (.if_icmp .le 14, 3) := by decide +kernel
theorem dX9_begins_122 : decode cX9_begins 122 = .ok (.aload_n 0, 1) := by decide +kernel
theorem dX9_begins_123 : decode cX9_begins 123 = .ok (.getfield 92, 3) := by decide +kernel
theorem dX9_begins_126 : decode cX9_begins 126 = .ok (.iload_n 2, 1) := by decide +kernel
theorem dX9_begins_127 : decode cX9_begins 127 = .ok (.iaload, 1) := by decide +kernel
theorem dX9_begins_128 : decode cX9_begins 128 = .ok (.iload_n 3, 1) := by decide +kernel
theorem dX9_begins_129 : decode cX9_begins 129 = .ok (.isub, 1) := by decide +kernel
theorem dX9_begins_130 : decode cX9_begins 130 = .ok (.goto 15, 3) := by decide +kernel
theorem dX9_begins_133 : decode cX9_begins 133 = .ok (.iload_n 3, 1) := by decide +kernel
theorem dX9_begins_134 : decode cX9_begins 134 = .ok (.aload_n 0, 1) := by decide +kernel
theorem dX9_begins_135 : decode cX9_begins 135 = .ok (.getfield 92, 3) := by decide +kernel
theorem dX9_begins_138 : decode cX9_begins 138 = .ok (.iload_n 2, 1) := by decide +kernel
theorem dX9_begins_139 : decode cX9_begins 139 = .ok (.iaload, 1) := by decide +kernel
theorem dX9_begins_140 : decode cX9_begins 140 = .ok (.isub, 1) := by decide +kernel
theorem dX9_begins_141 : decode cX9_begins 141 = .ok (.goto 4, 3) := by decide +kernel
theorem dX9_begins_144 : decode cX9_begins 144 = .ok (.iconst 0, 1) := by decide +kernel
theorem dX9_begins_145 : decode cX9_begins 145 = .ok (.istore 7, 2) := by decide +kernel
theorem dX9_begins_147 : decode cX9_begins 147 = .ok (.aload_n 0, 1) := by decide +kernel
theorem dX9_begins_148 : decode cX9_begins 148 = .ok (.getfield 98, 3) := by decide +kernel
theorem dX9_begins_151 : decode cX9_begins 151 = .ok (.iload 6, 2) := by decide +kernel
theorem dX9_begins_153 : decode cX9_begins 153 = .ok (.iconst 1, 1) := by decide +kernel
theorem dX9_begins_154 : decode cX9_begins 154 = .ok (.iload_n 1, 1) := by decide +kernel
theorem dX9_begins_155 : decode cX9_begins 155 = .ok (.iadd, 1) := by decide +kernel
theorem dX9_begins_156 : decode cX9_begins 156 = .ok (.iastore, 1) := by decide +kernel
theorem dX9_begins_157 : decode cX9_begins 157 = .ok (.aload_n 0, 1) := by decide +kernel
theorem dX9_begins_158 : decode cX9_begins 158 = .ok (.getfield 101, 3) := by decide +kernel
theorem dX9_begins_161 : decode cX9_begins 161 = .ok (.iload 6, 2) := by decide +kernel
theorem dX9_begins_163 : decode cX9_begins 163 = .ok (.iload_n 2, 1) := by decide +kernel
theorem dX9_begins_164 : decode cX9_begins 164 = .ok (.iastore, 1) := by decide +kernel
theorem dX9_begins_165 : decode cX9_begins 165 = .ok (.aload_n 0, 1) := by decide +kernel
theorem dX9_begins_166 : decode cX9_begins 166 = .ok (.getfield 104, 3) := by decide +kernel
theorem dX9_begins_169 : decode cX9_begins 169 = .ok (.iload 6, 2) := by decide +kernel
theorem dX9_begins_171 : decode cX9_begins 171 = .ok (.iload_n 3, 1) := by decide +kernel
theorem dX9_begins_172 : decode cX9_begins 172 = .ok (.iastore, 1) := by decide +kernel
theorem dX9_begins_173 : decode cX9_begins 173 = .ok (.aload_n 0, 1) := by decide +kernel
theorem dX9_begins_174 : decode cX9_begins 174 = .ok (.getfield 107, 3) := by decide +kernel
theorem dX9_begins_177 : decode cX9_begins 177 = .ok (.iload 6, 2) := by decide +kernel
theorem dX9_begins_179 : decode cX9_begins 179 = .ok (.aload_n 0, 1) := by decide +kernel
theorem dX9_begins_180 : decode cX9_begins 180 = .ok (.getfield 242, 3) := by decide +kernel
theorem dX9_begins_183 : decode cX9_begins 183 = .ok (.iload_n 1, 1) := by decide +kernel
theorem dX9_begins_184 : decode cX9_begins 184 = .ok (.iload_n 2, 1) := by decide +kernel
theorem dX9_begins_185 : decode cX9_begins 185 = .ok (.iload 7, 2) := by decide +kernel
theorem dX9_begins_187 : decode cX9_begins 187 = .ok (.invokestatic 268, 3) := by decide +kernel
theorem dX9_begins_190 : decode cX9_begins 190 = .ok (.iadd, 1) := by decide +kernel
theorem dX9_begins_191 : decode cX9_begins 191 = .ok (.iastore, 1) := by decide +kernel
theorem dX9_begins_192 : decode cX9_begins 192 = .ok (.iconst 0, 1) := by decide +kernel
theorem dX9_begins_193 : decode cX9_begins 193 = .ok (.istore 8, 2) := by decide +kernel
theorem dX9_begins_195 : decode cX9_begins 195 = .ok (.iload 8, 2) := by decide +kernel
theorem dX9_begins_197 : decode cX9_begins 197 = .ok (.aload_n 0, 1) := by decide +kernel
theorem dX9_begins_198 : decode cX9_begins 198 = .ok (.getfield 138, 3) := by decide +kernel
theorem dX9_begins_201 : decode cX9_begins 201 = .ok (.if_icmp .ge 45, 3) := by decide +kernel
theorem dX9_begins_204 : decode cX9_begins 204 = .ok (.iload 5, 2) := by decide +kernel
theorem dX9_begins_206 : decode cX9_begins 206 = .ok (.ifCond .le 40, 3) := by decide +kernel
theorem dX9_begins_209 : decode cX9_begins 209 = .ok (.aload_n 0, 1) := by decide +kernel
theorem dX9_begins_210 : decode cX9_begins 210 = .ok (.getfield 95, 3) := by decide +kernel
theorem dX9_begins_213 : decode cX9_begins 213 = .ok (.iload 8, 2) := by decide +kernel
theorem dX9_begins_215 : decode cX9_begins 215 = .ok (.iaload, 1) := by decide +kernel
theorem dX9_begins_216 : decode cX9_begins 216 = .ok (.ifCond .ge 24, 3) := by decide +kernel
theorem dX9_begins_219 : decode cX9_begins 219 = .ok (.aload_n 0, 1) := by decide +kernel
theorem dX9_begins_220 : decode cX9_begins 220 = .ok (.iload 8, 2) := by decide +kernel
theorem dX9_begins_222 : decode cX9_begins 222 = .ok (.invokevirtual 262, 3) := by decide +kernel
theorem dX9_begins_225 : decode cX9_begins 225 = .ok (.ifCond .eq 15, 3) := by decide +kernel
theorem dX9_begins_228 : decode cX9_begins 228 = .ok (.aload_n 0, 1) := by decide +kernel
theorem dX9_begins_229 : decode cX9_begins 229 = .ok (.getfield 95, 3) := by decide +kernel
theorem dX9_begins_232 : decode cX9_begins 232 = .ok (.iload 8, 2) := by decide +kernel
theorem dX9_begins_234 : decode cX9_begins 234 = .ok (.iload 6, 2) := by decide +kernel
theorem dX9_begins_236 : decode cX9_begins 236 = .ok (.iastore, 1) := by decide +kernel
theorem dX9_begins_237 : decode cX9_begins 237 = .ok (.iinc 5 (-1), 3) := by decide +kernel
theorem dX9_begins_240 : decode cX9_begins 240 = .ok (.iinc 8 1, 3) := by decide +kernel
theorem dX9_begins_243 : decode cX9_begins 243 = .ok (.goto (-48), 3) := by decide +kernel
theorem dX9_begins_246 : decode cX9_begins 246 = .ok (.iconst 1, 1) := by decide +kernel
theorem dX9_begins_247 : decode cX9_begins 247 = .ok (.ireturn, 1) := by decide +kernel
theorem dX9_block_0 : decode cX9_block 0 = .ok (.aload_n 0, 1) := by decide +kernel
theorem dX9_block_1 : decode cX9_block 1 = .ok (.bipush 123, 2) := by decide +kernel
theorem dX9_block_3 : decode cX9_block 3 = .ok (.invokevirtual 170, 3) := by decide +kernel
theorem dX9_block_6 : decode cX9_block 6 = .ok (.ifCond .eq 17, 3) := by decide +kernel
theorem dX9_block_9 : decode cX9_block 9 = .ok (.aload_n 0, 1) := by decide +kernel
theorem dX9_block_10 : decode cX9_block 10 = .ok (.getfield 195, 3) := by decide +kernel
theorem dX9_block_13 : decode cX9_block 13 = .ok (.bipush 8, 2) := by decide +kernel
theorem dX9_block_15 : decode cX9_block 15 = .ok (.if_icmp .ne 8, 3) := by decide +kernel
theorem dX9_block_18 : decode cX9_block 18 = .ok (.aload_n 0, 1) := by decide +kernel
theorem dX9_block_19 : decode cX9_block 19 = .ok (.iconst 5, 1) := by decide +kernel
theorem dX9_block_20 : decode cX9_block 20 = .ok (.invokevirtual 173, 3) := by decide +kernel
theorem dX9_block_23 : decode cX9_block 23 = .ok (.aload_n 0, 1) := by decide +kernel
theorem dX9_block_24 : decode cX9_block 24 = .ok (.bipush 123, 2) := by decide +kernel
theorem dX9_block_26 : decode cX9_block 26 = .ok (.invokevirtual 223, 3) := by decide +kernel
theorem dX9_block_29 : decode cX9_block 29 = .ok (.aload_n 0, 1) := by decide +kernel
theorem dX9_block_30 : decode cX9_block 30 = .ok (.dup, 1) := by decide +kernel
theorem dX9_block_31 : decode cX9_block 31 = .ok (.getfield 195, 3) := by decide +kernel
theorem dX9_block_34 : decode cX9_block 34 = .ok (.iconst 1, 1) := by decide +kernel
theorem dX9_block_35 : decode cX9_block 35 = .ok (.iadd, 1) := by decide +kernel
theorem dX9_block_36 : decode cX9_block 36 = .ok (.putfield 195, 3) := by decide +kernel
theorem dX9_block_39 : decode cX9_block 39 = .ok (.aload_n 0, 1) := by decide +kernel
theorem dX9_block_40 : decode cX9_block 40 = .ok (.getfield 167, 3) := by decide +kernel
theorem dX9_block_43 : decode cX9_block 43 = .ok (.ifCond .ne 19, 3) := by decide +kernel
theorem dX9_block_46 : decode cX9_block 46 = .ok (.aload_n 0, 1) := by decide +kernel
theorem dX9_block_47 : decode cX9_block 47 = .ok (.bipush 125, 2) := by decide +kernel
theorem dX9_block_49 : decode cX9_block 49 = .ok (.invokevirtual 170, 3) := by decide +kernel
theorem dX9_block_52 : decode cX9_block 52 = .ok (.ifCond .ne 10, 3) := by decide +kernel
theorem dX9_block_55 : decode cX9_block 55 = .ok (.aload_n 0, 1) := by decide +kernel
theorem dX9_block_56 : decode cX9_block 56 = .ok (.invokevirtual 198, 3) := by decide +kernel
theorem dX9_block_59 : decode cX9_block 59 = .ok (.goto (-20), 3) := by decide +kernel
theorem dX9_block_62 : decode cX9_block 62 = .ok (.aload_n 0, 1) := by decide +kernel
theorem dX9_block_63 : decode cX9_block 63 = .ok (.bipush 125, 2) := by decide +kernel
theorem dX9_block_65 : decode cX9_block 65 = .ok (.invokevirtual 223, 3) := by decide +kernel
theorem dX9_block_68 : decode cX9_block 68 = .ok (.aload_n 0, 1) := by decide +kernel
theorem dX9_block_69 : decode cX9_block 69 = .ok (.dup, 1) := by decide +kernel
theorem dX9_block_70 : decode cX9_block 70 = .ok (.getfield 195, 3) := by decide +kernel
theorem dX9_block_73 : decode cX9_block 73 = .ok (.iconst 1, 1) := by decide +kernel
theorem dX9_block_74 : decode cX9_block 74 = .ok (.isub, 1) := by decide +kernel
theorem dX9_block_75 : decode cX9_block 75 = .ok (.putfield 195, 3) := by decide +kernel
theorem dX9_block_78 : decode cX9_block 78 = .ok (.return_, 1) := by decide +kernel
theorem dX9_braced_0 : decode cX9_braced 0 = .ok (.aload_n 0, 1) := by decide +kernel
theorem dX9_braced_1 : decode cX9_braced 1 = .ok (.iconst 0, 1) := by decide +kernel
theorem dX9_braced_2 : decode cX9_braced 2 = .ok (.putfield 1, 3) := by decide +kernel
theorem dX9_braced_5 : decode cX9_braced 5 = .ok (.iload_n 1, 1) := by decide +kernel
theorem dX9_braced_6 : decode cX9_braced 6 = .ok (.ifCond .lt 8, 3) := by decide +kernel
theorem dX9_braced_9 : decode cX9_braced 9 = .ok (.iload_n 1, 1) := by decide +kernel
theorem dX9_braced_10 : decode cX9_braced 10 = .ok (.iconst 2, 1) := by decide +kernel
theorem dX9_braced_11 : decode cX9_braced 11 = .ok (.if_icmp .le 7, 3) := by decide +kernel
theorem dX9_braced_14 : decode cX9_braced 14 = .ok (.iconst (-1), 1) := by decide +kernel
theorem dX9_braced_15 : decode cX9_braced 15 = .ok (.goto 9, 3) := by decide +kernel
theorem dX9_braced_18 : decode cX9_braced 18 = .ok (.aload_n 0, 1) := by decide +kernel
theorem dX9_braced_19 : decode cX9_braced 19 = .ok (.getfield 92, 3) := by decide +kernel
theorem dX9_braced_22 : decode cX9_braced 22 = .ok (.iload_n 1, 1) := by decide +kernel
theorem dX9_braced_23 : decode cX9_braced 23 = .ok (.iaload, 1) := by decide +kernel
theorem dX9_braced_24 : decode cX9_braced 24 = .ok (.ireturn, 1) := by decide +kernel
theorem dX9_carries_0 : decode cX9_carries 0 = .ok (.iconst 0, 1) := by decide +kernel
theorem dX9_carries_1 : decode cX9_carries 1 = .ok (.istore_n 1, 1) := by decide +kernel
theorem dX9_carries_2 : decode cX9_carries 2 = .ok (.iload_n 1, 1) := by decide +kernel
theorem dX9_carries_3 : decode cX9_carries 3 = .ok (.bipush 60, 2) := by decide +kernel
theorem dX9_carries_5 : decode cX9_carries 5 = .ok (.if_icmp .ge 159, 3) := by decide +kernel
theorem dX9_carries_8 : decode cX9_carries 8 = .ok (.aload_n 0, 1) := by decide +kernel
theorem dX9_carries_9 : decode cX9_carries 9 = .ok (.getfield 208, 3) := by decide +kernel
theorem dX9_carries_12 : decode cX9_carries 12 = .ok (.aload_n 0, 1) := by decide +kernel
theorem dX9_carries_13 : decode cX9_carries 13 = .ok (.getfield 242, 3) := by decide +kernel
theorem dX9_carries_16 : decode cX9_carries 16 = .ok (.if_icmp .gt 148, 3) := by decide +kernel
theorem dX9_carries_19 : decode cX9_carries 19 = .ok (.aload_n 0, 1) := by decide +kernel
theorem dX9_carries_20 : decode cX9_carries 20 = .ok (.getfield 71, 3) := by decide +kernel
theorem dX9_carries_23 : decode cX9_carries 23 = .ok (.aload_n 0, 1) := by decide +kernel
theorem dX9_carries_24 : decode cX9_carries 24 = .ok (.getfield 205, 3) := by decide +kernel
theorem dX9_carries_27 : decode cX9_carries 27 = .ok (.iaload, 1) := by decide +kernel
theorem dX9_carries_28 : decode cX9_carries 28 = .ok (.ifCond .eq 136, 3) := by decide +kernel
theorem dX9_carries_31 : decode cX9_carries 31 = .ok (.aload_n 0, 1) := by decide +kernel
theorem dX9_carries_32 : decode cX9_carries 32 = .ok (.getfield 71, 3) := by decide +kernel
theorem dX9_carries_35 : decode cX9_carries 35 = .ok (.aload_n 0, 1) := by decide +kernel
theorem dX9_carries_36 : decode cX9_carries 36 = .ok (.getfield 205, 3) := by decide +kernel
theorem dX9_carries_39 : decode cX9_carries 39 = .ok (.iaload, 1) := by decide +kernel
theorem dX9_carries_40 : decode cX9_carries 40 = .ok (.istore_n 2, 1) := by decide +kernel
theorem dX9_carries_41 : decode cX9_carries 41 = .ok (.iload_n 2, 1) := by decide +kernel
theorem dX9_carries_42 : decode cX9_carries 42 = .ok (.bipush 12, 2) := by decide +kernel
theorem dX9_carries_44 : decode cX9_carries 44 = .ok (.if_icmp .ne 19, 3) := by decide +kernel
theorem dX9_carries_47 : decode cX9_carries 47 = .ok (.aload_n 0, 1) := by decide +kernel
theorem dX9_carries_48 : decode cX9_carries 48 = .ok (.aload_n 0, 1) := by decide +kernel
theorem dX9_carries_49 : decode cX9_carries 49 = .ok (.getfield 74, 3) := by decide +kernel
theorem dX9_carries_52 : decode cX9_carries 52 = .ok (.aload_n 0, 1) := by decide +kernel
theorem dX9_carries_53 : decode cX9_carries 53 = .ok (.getfield 205, 3) := by decide +kernel
theorem dX9_carries_56 : decode cX9_carries 56 = .ok (.iaload, 1) := by decide +kernel
theorem dX9_carries_57 : decode cX9_carries 57 = .ok (.putfield 205, 3) := by decide +kernel
theorem dX9_carries_60 : decode cX9_carries 60 = .ok (.goto (-58), 3) := by decide +kernel
theorem dX9_carries_63 : decode cX9_carries 63 = .ok (.iload_n 2, 1) := by decide +kernel
theorem dX9_carries_64 : decode cX9_carries 64 = .ok (.bipush 7, 2) := by decide +kernel
theorem dX9_carries_66 : decode cX9_carries 66 = .ok (.if_icmp .ge 30, 3) := by decide +kernel
theorem dX9_carries_69 : decode cX9_carries 69 = .ok (.aload_n 0, 1) := by decide +kernel
theorem dX9_carries_70 : decode cX9_carries 70 = .ok (.iload_n 2, 1) := by decide +kernel
theorem dX9_carries_71 : decode cX9_carries 71 = .ok (.aload_n 0, 1) := by decide +kernel
theorem dX9_carries_72 : decode cX9_carries 72 = .ok (.getfield 74, 3) := by decide +kernel
theorem dX9_carries_75 : decode cX9_carries 75 = .ok (.aload_n 0, 1) := by decide +kernel
theorem dX9_carries_76 : decode cX9_carries 76 = .ok (.getfield 205, 3) := by decide +kernel
theorem dX9_carries_79 : decode cX9_carries 79 = .ok (.iaload, 1) := by decide +kernel
theorem dX9_carries_80 : decode cX9_carries 80 = .ok (.invokevirtual 296, 3) := by decide +kernel
theorem dX9_carries_83 : decode cX9_carries 83 = .ok (.aload_n 0, 1) := by decide +kernel
theorem dX9_carries_84 : decode cX9_carries 84 = .ok (.dup, 1) := by decide +kernel
theorem dX9_carries_85 : decode cX9_carries 85 = .ok (.getfield 205, 3) := by decide +kernel
theorem dX9_carries_88 : decode cX9_carries 88 = .ok (.iconst 1, 1) := by decide +kernel
theorem dX9_carries_89 : decode cX9_carries 89 = .ok (.iadd, 1) := by decide +kernel
theorem dX9_carries_90 : decode cX9_carries 90 = .ok (.putfield 205, 3) := by decide +kernel
theorem dX9_carries_93 : decode cX9_carries 93 = .ok (.goto (-91), 3) := by decide +kernel
theorem dX9_carries_96 : decode cX9_carries 96 = .ok (.iload_n 2, 1) := by decide +kernel
theorem dX9_carries_97 : decode cX9_carries 97 = .ok (.bipush 7, 2) := by decide +kernel
theorem dX9_carries_99 : decode cX9_carries 99 = .ok (.if_icmp .ne 44, 3) := by decide +kernel
theorem dX9_carries_102 : decode cX9_carries 102 = .ok (.aload_n 0, 1) := by decide +kernel
theorem dX9_carries_103 : decode cX9_carries 103 = .ok (.aload_n 0, 1) := by decide +kernel
theorem dX9_carries_104 : decode cX9_carries 104 = .ok (.getfield 74, 3) := by decide +kernel
theorem dX9_carries_107 : decode cX9_carries 107 = .ok (.aload_n 0, 1) := by decide +kernel
theorem dX9_carries_108 : decode cX9_carries 108 = .ok (.getfield 205, 3) := by decide +kernel
theorem dX9_carries_111 : decode cX9_carries 111 = .ok (.iaload, 1) := by decide +kernel
theorem dX9_carries_112 : decode cX9_carries 112 = .ok (.bipush 32, 2) := by decide +kernel
theorem dX9_carries_114 : decode cX9_carries 114 = .ok (.idiv, 1) := by decide +kernel
theorem dX9_carries_115 : decode cX9_carries 115 = .ok (.aload_n 0, 1) := by decide +kernel
theorem dX9_carries_116 : decode cX9_carries 116 = .ok (.getfield 74, 3) := by decide +kernel
theorem dX9_carries_119 : decode cX9_carries 119 = .ok (.aload_n 0, 1) := by decide +kernel
theorem dX9_carries_120 : decode cX9_carries 120 = .ok (.getfield 205, 3) := by decide +kernel
theorem dX9_carries_123 : decode cX9_carries 123 = .ok (.iaload, 1) := by decide +kernel
theorem dX9_carries_124 : decode cX9_carries 124 = .ok (.bipush 32, 2) := by decide +kernel
theorem dX9_carries_126 : decode cX9_carries 126 = .ok (.irem, 1) := by decide +kernel
theorem dX9_carries_127 : decode cX9_carries 127 = .ok (.aload_n 0, 1) := by decide +kernel
theorem dX9_carries_128 : decode cX9_carries 128 = .ok (.getfield 77, 3) := by decide +kernel
theorem dX9_carries_131 : decode cX9_carries 131 = .ok (.aload_n 0, 1) := by decide +kernel
theorem dX9_carries_132 : decode cX9_carries 132 = .ok (.getfield 205, 3) := by decide +kernel
theorem dX9_carries_135 : decode cX9_carries 135 = .ok (.iaload, 1) := by decide +kernel
theorem dX9_carries_136 : decode cX9_carries 136 = .ok (.invokevirtual 299, 3) := by decide +kernel
theorem dX9_carries_139 : decode cX9_carries 139 = .ok (.ifCond .ne 4, 3) := by decide +kernel
theorem dX9_carries_142 : decode cX9_carries 142 = .ok (.return_, 1) := by decide +kernel
theorem dX9_carries_143 : decode cX9_carries 143 = .ok (.iinc 1 1, 3) := by decide +kernel
theorem dX9_carries_146 : decode cX9_carries 146 = .ok (.aload_n 0, 1) := by decide +kernel
theorem dX9_carries_147 : decode cX9_carries 147 = .ok (.dup, 1) := by decide +kernel
theorem dX9_carries_148 : decode cX9_carries 148 = .ok (.getfield 302, 3) := by decide +kernel
theorem dX9_carries_151 : decode cX9_carries 151 = .ok (.iconst 1, 1) := by decide +kernel
theorem dX9_carries_152 : decode cX9_carries 152 = .ok (.iadd, 1) := by decide +kernel
theorem dX9_carries_153 : decode cX9_carries 153 = .ok (.putfield 302, 3) := by decide +kernel
theorem dX9_carries_156 : decode cX9_carries 156 = .ok (.aload_n 0, 1) := by decide +kernel
theorem dX9_carries_157 : decode cX9_carries 157 = .ok (.iload_n 2, 1) := by decide +kernel
theorem dX9_carries_158 : decode cX9_carries 158 = .ok (.invokevirtual 305, 3) := by decide +kernel
theorem dX9_carries_161 : decode cX9_carries 161 = .ok (.goto (-159), 3) := by decide +kernel
theorem dX9_carries_164 : decode cX9_carries 164 = .ok (.return_, 1) := by decide +kernel
theorem dX9_carriesOut_0 : decode cX9_carriesOut 0 = .ok (.aload_n 0, 1) := by decide +kernel
theorem dX9_carriesOut_1 : decode cX9_carriesOut 1 = .ok (.getfield 74, 3) := by decide +kernel
theorem dX9_carriesOut_4 : decode cX9_carriesOut 4 = .ok (.aload_n 0, 1) := by decide +kernel
theorem dX9_carriesOut_5 : decode cX9_carriesOut 5 = .ok (.getfield 205, 3) := by decide +kernel
theorem dX9_carriesOut_8 : decode cX9_carriesOut 8 = .ok (.iaload, 1) := by decide +kernel
theorem dX9_carriesOut_9 : decode cX9_carriesOut 9 = .ok (.istore_n 2, 1) := by decide +kernel
theorem dX9_carriesOut_10 : decode cX9_carriesOut 10 = .ok (.aload_n 0, 1) := by decide +kernel
theorem dX9_carriesOut_11 : decode cX9_carriesOut 11 = .ok (.dup, 1) := by decide +kernel
theorem dX9_carriesOut_12 : decode cX9_carriesOut 12 = .ok (.getfield 205, 3) := by decide +kernel
theorem dX9_carriesOut_15 : decode cX9_carriesOut 15 = .ok (.iconst 1, 1) := by decide +kernel
theorem dX9_carriesOut_16 : decode cX9_carriesOut 16 = .ok (.iadd, 1) := by decide +kernel
theorem dX9_carriesOut_17 : decode cX9_carriesOut 17 = .ok (.putfield 205, 3) := by decide +kernel
theorem dX9_carriesOut_20 : decode cX9_carriesOut 20 = .ok (.iload_n 1, 1) := by decide +kernel
theorem dX9_carriesOut_21 : decode cX9_carriesOut 21 = .ok (.bipush 8, 2) := by decide +kernel
theorem dX9_carriesOut_23 : decode cX9_carriesOut 23 = .ok (.if_icmp .ne 11, 3) := by decide +kernel
theorem dX9_carriesOut_26 : decode cX9_carriesOut 26 = .ok (.aload_n 0, 1) := by decide +kernel
theorem dX9_carriesOut_27 : decode cX9_carriesOut 27 = .ok (.iload_n 2, 1) := by decide +kernel
theorem dX9_carriesOut_28 : decode cX9_carriesOut 28 = .ok (.putfield 308, 3) := by decide +kernel
theorem dX9_carriesOut_31 : decode cX9_carriesOut 31 = .ok (.goto 76, 3) := by decide +kernel
theorem dX9_carriesOut_34 : decode cX9_carriesOut 34 = .ok (.iload_n 1, 1) := by decide +kernel
theorem dX9_carriesOut_35 : decode cX9_carriesOut 35 = .ok (.bipush 9, 2) := by decide +kernel
theorem dX9_carriesOut_37 : decode cX9_carriesOut 37 = .ok (.if_icmp .ne 11, 3) := by decide +kernel
theorem dX9_carriesOut_40 : decode cX9_carriesOut 40 = .ok (.aload_n 0, 1) := by decide +kernel
theorem dX9_carriesOut_41 : decode cX9_carriesOut 41 = .ok (.iload_n 2, 1) := by decide +kernel
theorem dX9_carriesOut_42 : decode cX9_carriesOut 42 = .ok (.putfield 252, 3) := by decide +kernel
theorem dX9_carriesOut_45 : decode cX9_carriesOut 45 = .ok (.goto 62, 3) := by decide +kernel
theorem dX9_carriesOut_48 : decode cX9_carriesOut 48 = .ok (.iload_n 1, 1) := by decide +kernel
theorem dX9_carriesOut_49 : decode cX9_carriesOut 49 = .ok (.bipush 10, 2) := by decide +kernel
theorem dX9_carriesOut_51 : decode cX9_carriesOut 51 = .ok (.if_icmp .ne 16, 3) := by decide +kernel
theorem dX9_carriesOut_54 : decode cX9_carriesOut 54 = .ok (.aload_n 0, 1) := by decide +kernel
theorem dX9_carriesOut_55 : decode cX9_carriesOut 55 = .ok (.aload_n 0, 1) := by decide +kernel
theorem dX9_carriesOut_56 : decode cX9_carriesOut 56 = .ok (.getfield 242, 3) := by decide +kernel
theorem dX9_carriesOut_59 : decode cX9_carriesOut 59 = .ok (.iload_n 2, 1) := by decide +kernel
theorem dX9_carriesOut_60 : decode cX9_carriesOut 60 = .ok (.iadd, 1) := by decide +kernel
theorem dX9_carriesOut_61 : decode cX9_carriesOut 61 = .ok (.putfield 208, 3) := by decide +kernel
theorem dX9_carriesOut_64 : decode cX9_carriesOut 64 = .ok (.goto 43, 3) := by decide +kernel
theorem dX9_carriesOut_67 : decode cX9_carriesOut 67 = .ok (.iload_n 1, 1) := by decide +kernel
theorem dX9_carriesOut_68 : decode cX9_carriesOut 68 = .ok (.bipush 11, 2) := by decide +kernel
theorem dX9_carriesOut_70 : decode cX9_carriesOut 70 = .ok (.if_icmp .ne 37, 3) := by decide +kernel
theorem dX9_carriesOut_73 : decode cX9_carriesOut 73 = .ok (.aload_n 0, 1) := by decide +kernel
theorem dX9_carriesOut_74 : decode cX9_carriesOut 74 = .ok (.dup, 1) := by decide +kernel
theorem dX9_carriesOut_75 : decode cX9_carriesOut 75 = .ok (.getfield 311, 3) := by decide +kernel
theorem dX9_carriesOut_78 : decode cX9_carriesOut 78 = .ok (.iconst 1, 1) := by decide +kernel
theorem dX9_carriesOut_79 : decode cX9_carriesOut 79 = .ok (.isub, 1) := by decide +kernel
theorem dX9_carriesOut_80 : decode cX9_carriesOut 80 = .ok (.putfield 311, 3) := by decide +kernel
theorem dX9_carriesOut_83 : decode cX9_carriesOut 83 = .ok (.aload_n 0, 1) := by decide +kernel
theorem dX9_carriesOut_84 : decode cX9_carriesOut 84 = .ok (.aload_n 0, 1) := by decide +kernel
theorem dX9_carriesOut_85 : decode cX9_carriesOut 85 = .ok (.getfield 119, 3) := by decide +kernel
theorem dX9_carriesOut_88 : decode cX9_carriesOut 88 = .ok (.aload_n 0, 1) := by decide +kernel
theorem dX9_carriesOut_89 : decode cX9_carriesOut 89 = .ok (.getfield 311, 3) := by decide +kernel
theorem dX9_carriesOut_92 : decode cX9_carriesOut 92 = .ok (.iaload, 1) := by decide +kernel
theorem dX9_carriesOut_93 : decode cX9_carriesOut 93 = .ok (.ifCond .ne 7, 3) := by decide +kernel
theorem dX9_carriesOut_96 : decode cX9_carriesOut 96 = .ok (.iload_n 2, 1) := by decide +kernel
theorem dX9_carriesOut_97 : decode cX9_carriesOut 97 = .ok (.goto 7, 3) := by decide +kernel
theorem dX9_carriesOut_100 : decode cX9_carriesOut 100 = .ok (.aload_n 0, 1) := by decide +kernel
theorem dX9_carriesOut_101 : decode cX9_carriesOut 101 = .ok (.getfield 205, 3) := by decide +kernel
theorem dX9_carriesOut_104 : decode cX9_carriesOut 104 = .ok (.putfield 205, 3) := by decide +kernel
theorem dX9_carriesOut_107 : decode cX9_carriesOut 107 = .ok (.return_, 1) := by decide +kernel
theorem dX9_choice_0 : decode cX9_choice 0 = .ok (.aload_n 0, 1) := by decide +kernel
theorem dX9_choice_1 : decode cX9_choice 1 = .ok (.invokevirtual 226, 3) := by decide +kernel
theorem dX9_choice_4 : decode cX9_choice 4 = .ok (.aload_n 0, 1) := by decide +kernel
theorem dX9_choice_5 : decode cX9_choice 5 = .ok (.bipush 11, 2) := by decide +kernel
theorem dX9_choice_7 : decode cX9_choice 7 = .ok (.iconst 0, 1) := by decide +kernel
theorem dX9_choice_8 : decode cX9_choice 8 = .ok (.iconst 0, 1) := by decide +kernel
theorem dX9_choice_9 : decode cX9_choice 9 = .ok (.invokevirtual 201, 3) := by decide +kernel
theorem dX9_choice_12 : decode cX9_choice 12 = .ok (.istore_n 3, 1) := by decide +kernel
theorem dX9_choice_13 : decode cX9_choice 13 = .ok (.aload_n 0, 1) := by decide +kernel
theorem dX9_choice_14 : decode cX9_choice 14 = .ok (.invokevirtual 229, 3) := by decide +kernel
theorem dX9_choice_17 : decode cX9_choice 17 = .ok (.iload_n 1, 1) := by decide +kernel
theorem dX9_choice_18 : decode cX9_choice 18 = .ok (.bipush 9, 2) := by decide +kernel
theorem dX9_choice_20 : decode cX9_choice 20 = .ok (.if_icmp .ne 24, 3) := by decide +kernel
theorem dX9_choice_23 : decode cX9_choice 23 = .ok (.aload_n 0, 1) := by decide +kernel
theorem dX9_choice_24 : decode cX9_choice 24 = .ok (.bipush 12, 2) := by decide +kernel
theorem dX9_choice_26 : decode cX9_choice 26 = .ok (.iload_n 2, 1) := by decide +kernel
theorem dX9_choice_27 : decode cX9_choice 27 = .ok (.iconst 0, 1) := by decide +kernel
theorem dX9_choice_28 : decode cX9_choice 28 = .ok (.invokevirtual 201, 3) := by decide +kernel
theorem dX9_choice_31 : decode cX9_choice 31 = .ok (.istore 4, 2) := by decide +kernel
theorem dX9_choice_33 : decode cX9_choice 33 = .ok (.aload_n 0, 1) := by decide +kernel
theorem dX9_choice_34 : decode cX9_choice 34 = .ok (.getfield 74, 3) := by decide +kernel
theorem dX9_choice_37 : decode cX9_choice 37 = .ok (.iload_n 3, 1) := by decide +kernel
theorem dX9_choice_38 : decode cX9_choice 38 = .ok (.aload_n 0, 1) := by decide +kernel
theorem dX9_choice_39 : decode cX9_choice 39 = .ok (.invokevirtual 211, 3) := by decide +kernel
theorem dX9_choice_42 : decode cX9_choice 42 = .ok (.iastore, 1) := by decide +kernel
theorem dX9_choice_43 : decode cX9_choice 43 = .ok (.return_, 1) := by decide +kernel
theorem dX9_choice_44 : decode cX9_choice 44 = .ok (.aload_n 0, 1) := by decide +kernel
theorem dX9_choice_45 : decode cX9_choice 45 = .ok (.bipush 8, 2) := by decide +kernel
theorem dX9_choice_47 : decode cX9_choice 47 = .ok (.invokevirtual 180, 3) := by decide +kernel
theorem dX9_choice_50 : decode cX9_choice 50 = .ok (.ifCond .ne 14, 3) := by decide +kernel
theorem dX9_choice_53 : decode cX9_choice 53 = .ok (.aload_n 0, 1) := by decide +kernel
theorem dX9_choice_54 : decode cX9_choice 54 = .ok (.getfield 74, 3) := by decide +kernel
theorem dX9_choice_57 : decode cX9_choice 57 = .ok (.iload_n 3, 1) := by decide +kernel
theorem dX9_choice_58 : decode cX9_choice 58 = .ok (.aload_n 0, 1) := by decide +kernel
theorem dX9_choice_59 : decode cX9_choice 59 = .ok (.invokevirtual 211, 3) := by decide +kernel
theorem dX9_choice_62 : decode cX9_choice 62 = .ok (.iastore, 1) := by decide +kernel
theorem dX9_choice_63 : decode cX9_choice 63 = .ok (.return_, 1) := by decide +kernel
theorem dX9_choice_64 : decode cX9_choice 64 = .ok (.aload_n 0, 1) := by decide +kernel
theorem dX9_choice_65 : decode cX9_choice 65 = .ok (.bipush 12, 2) := by decide +kernel
theorem dX9_choice_67 : decode cX9_choice 67 = .ok (.iconst 0, 1) := by decide +kernel
theorem dX9_choice_68 : decode cX9_choice 68 = .ok (.iconst 0, 1) := by decide +kernel
theorem dX9_choice_69 : decode cX9_choice 69 = .ok (.invokevirtual 201, 3) := by decide +kernel
theorem dX9_choice_72 : decode cX9_choice 72 = .ok (.istore 4, 2) := by decide +kernel
theorem dX9_choice_74 : decode cX9_choice 74 = .ok (.aload_n 0, 1) := by decide +kernel
theorem dX9_choice_75 : decode cX9_choice 75 = .ok (.getfield 74, 3) := by decide +kernel
theorem dX9_choice_78 : decode cX9_choice 78 = .ok (.iload_n 3, 1) := by decide +kernel
theorem dX9_choice_79 : decode cX9_choice 79 = .ok (.aload_n 0, 1) := by decide +kernel
theorem dX9_choice_80 : decode cX9_choice 80 = .ok (.invokevirtual 211, 3) := by decide +kernel
theorem dX9_choice_83 : decode cX9_choice 83 = .ok (.iastore, 1) := by decide +kernel
theorem dX9_choice_84 : decode cX9_choice 84 = .ok (.aload_n 0, 1) := by decide +kernel
theorem dX9_choice_85 : decode cX9_choice 85 = .ok (.invokevirtual 229, 3) := by decide +kernel
theorem dX9_choice_88 : decode cX9_choice 88 = .ok (.aload_n 0, 1) := by decide +kernel
theorem dX9_choice_89 : decode cX9_choice 89 = .ok (.getfield 74, 3) := by decide +kernel
theorem dX9_choice_92 : decode cX9_choice 92 = .ok (.iload 4, 2) := by decide +kernel
theorem dX9_choice_94 : decode cX9_choice 94 = .ok (.aload_n 0, 1) := by decide +kernel
theorem dX9_choice_95 : decode cX9_choice 95 = .ok (.invokevirtual 211, 3) := by decide +kernel
theorem dX9_choice_98 : decode cX9_choice 98 = .ok (.iastore, 1) := by decide +kernel
theorem dX9_choice_99 : decode cX9_choice 99 = .ok (.return_, 1) := by decide +kernel
theorem dX9_cutAll_0 : decode cX9_cutAll 0 = .ok (.aload_n 0, 1) := by decide +kernel
theorem dX9_cutAll_1 : decode cX9_cutAll 1 = .ok (.aload_n 0, 1) := by decide +kernel
theorem dX9_cutAll_2 : decode cX9_cutAll 2 = .ok (.getfield 11, 3) := by decide +kernel
theorem dX9_cutAll_5 : decode cX9_cutAll 5 = .ok (.putfield 145, 3) := by decide +kernel
theorem dX9_cutAll_8 : decode cX9_cutAll 8 = .ok (.aload_n 0, 1) := by decide +kernel
theorem dX9_cutAll_9 : decode cX9_cutAll 9 = .ok (.iconst 0, 1) := by decide +kernel
theorem dX9_cutAll_10 : decode cX9_cutAll 10 = .ok (.putfield 11, 3) := by decide +kernel
theorem dX9_cutAll_13 : decode cX9_cutAll 13 = .ok (.iconst 0, 1) := by decide +kernel
theorem dX9_cutAll_14 : decode cX9_cutAll 14 = .ok (.istore_n 1, 1) := by decide +kernel
theorem dX9_cutAll_15 : decode cX9_cutAll 15 = .ok (.iconst 0, 1) := by decide +kernel
theorem dX9_cutAll_16 : decode cX9_cutAll 16 = .ok (.istore_n 2, 1) := by decide +kernel
theorem dX9_cutAll_17 : decode cX9_cutAll 17 = .ok (.iload_n 2, 1) := by decide +kernel
theorem dX9_cutAll_18 : decode cX9_cutAll 18 = .ok (.aload_n 0, 1) := by decide +kernel
theorem dX9_cutAll_19 : decode cX9_cutAll 19 = .ok (.getfield 145, 3) := by decide +kernel
theorem dX9_cutAll_22 : decode cX9_cutAll 22 = .ok (.if_icmp .ge 257, 3) := by decide +kernel
theorem dX9_cutAll_25 : decode cX9_cutAll 25 = .ok (.aload_n 0, 1) := by decide +kernel
theorem dX9_cutAll_26 : decode cX9_cutAll 26 = .ok (.getfield 14, 3) := by decide +kernel
theorem dX9_cutAll_29 : decode cX9_cutAll 29 = .ok (.iload_n 2, 1) := by decide +kernel
theorem dX9_cutAll_30 : decode cX9_cutAll 30 = .ok (.iaload, 1) := by decide +kernel
theorem dX9_cutAll_31 : decode cX9_cutAll 31 = .ok (.istore_n 3, 1) := by decide +kernel
theorem dX9_cutAll_32 : decode cX9_cutAll 32 = .ok (.iload_n 3, 1) := by decide +kernel
theorem dX9_cutAll_33 : decode cX9_cutAll 33 = .ok (.bipush 10, 2) := by decide +kernel
theorem dX9_cutAll_35 : decode cX9_cutAll 35 = .ok (.if_icmp .eq 9, 3) := by decide +kernel
theorem dX9_cutAll_38 : decode cX9_cutAll 38 = .ok (.iload_n 3, 1) := by decide +kernel
theorem dX9_cutAll_39 : decode cX9_cutAll 39 = .ok (.bipush 32, 2) := by decide +kernel
theorem dX9_cutAll_41 : decode cX9_cutAll 41 = .ok (.if_icmp .ne 9, 3) := by decide +kernel
theorem dX9_cutAll_44 : decode cX9_cutAll 44 = .ok (.iinc 2 1, 3) := by decide +kernel
theorem dX9_cutAll_47 : decode cX9_cutAll 47 = .ok (.goto (-30), 3) := by decide +kernel
theorem dX9_cutAll_50 : decode cX9_cutAll 50 = .ok (.iload_n 2, 1) := by decide +kernel
theorem dX9_cutAll_51 : decode cX9_cutAll 51 = .ok (.istore 4, 2) := by decide +kernel
theorem dX9_cutAll_53 : decode cX9_cutAll 53 = .ok (.lconst 0, 1) := by decide +kernel
theorem dX9_cutAll_54 : decode cX9_cutAll 54 = .ok (.lstore 5, 2) := by decide +kernel
theorem dX9_cutAll_56 : decode cX9_cutAll 56 = .ok (.aload_n 0, 1) := by decide +kernel
theorem dX9_cutAll_57 : decode cX9_cutAll 57 = .ok (.getfield 27, 3) := by decide +kernel
theorem dX9_cutAll_60 : decode cX9_cutAll 60 = .ok (.iload_n 1, 1) := by decide +kernel
theorem dX9_cutAll_61 : decode cX9_cutAll 61 = .ok (.iload_n 2, 1) := by decide +kernel
theorem dX9_cutAll_62 : decode cX9_cutAll 62 = .ok (.iastore, 1) := by decide +kernel
theorem dX9_cutAll_63 : decode cX9_cutAll 63 = .ok (.iload_n 3, 1) := by decide +kernel
theorem dX9_cutAll_64 : decode cX9_cutAll 64 = .ok (.invokestatic 141, 3) := by decide +kernel
theorem dX9_cutAll_67 : decode cX9_cutAll 67 = .ok (.ifCond .eq 85, 3) := by decide +kernel
theorem dX9_cutAll_70 : decode cX9_cutAll 70 = .ok (.iload_n 2, 1) := by decide +kernel
theorem dX9_cutAll_71 : decode cX9_cutAll 71 = .ok (.aload_n 0, 1) := by decide +kernel
theorem dX9_cutAll_72 : decode cX9_cutAll 72 = .ok (.getfield 145, 3) := by decide +kernel
theorem dX9_cutAll_75 : decode cX9_cutAll 75 = .ok (.if_icmp .ge 54, 3) := by decide +kernel
theorem dX9_cutAll_78 : decode cX9_cutAll 78 = .ok (.aload_n 0, 1) := by decide +kernel
theorem dX9_cutAll_79 : decode cX9_cutAll 79 = .ok (.getfield 14, 3) := by decide +kernel
theorem dX9_cutAll_82 : decode cX9_cutAll 82 = .ok (.iload_n 2, 1) := by decide +kernel
theorem dX9_cutAll_83 : decode cX9_cutAll 83 = .ok (.iaload, 1) := by decide +kernel
theorem dX9_cutAll_84 : decode cX9_cutAll 84 = .ok (.invokestatic 141, 3) := by decide +kernel
theorem dX9_cutAll_87 : decode cX9_cutAll 87 = .ok (.ifCond .eq 42, 3) := by decide +kernel
theorem dX9_cutAll_90 : decode cX9_cutAll 90 = .ok (.iload_n 2, 1) := by decide +kernel
theorem dX9_cutAll_91 : decode cX9_cutAll 91 = .ok (.iload 4, 2) := by decide +kernel
theorem dX9_cutAll_93 : decode cX9_cutAll 93 = .ok (.isub, 1) := by decide +kernel
theorem dX9_cutAll_94 : decode cX9_cutAll 94 = .ok (.bipush 8, 2) := by decide +kernel
theorem dX9_cutAll_96 : decode cX9_cutAll 96 = .ok (.if_icmp .ge 23, 3) := by decide +kernel
theorem dX9_cutAll_99 : decode cX9_cutAll 99 = .ok (.ldc2_w 148, 3) := by decide +kernel
theorem dX9_cutAll_102 : decode cX9_cutAll 102 = .ok (.lload 5, 2) := by decide +kernel
theorem dX9_cutAll_104 : decode cX9_cutAll 104 = .ok (.lmul, 1) := by decide +kernel
theorem dX9_cutAll_105 : decode cX9_cutAll 105 = .ok (.aload_n 0, 1) := by decide +kernel
theorem dX9_cutAll_106 : decode cX9_cutAll 106 = .ok (.getfield 14, 3) := by decide +kernel
theorem dX9_cutAll_109 : decode cX9_cutAll 109 = .ok (.iload_n 2, 1) := by decide +kernel
theorem dX9_cutAll_110 : decode cX9_cutAll 110 = .ok (.iaload, 1) := by decide +kernel
theorem dX9_cutAll_111 : decode cX9_cutAll 111 = .ok (.invokestatic 150, 3) := by decide +kernel
theorem dX9_cutAll_114 : decode cX9_cutAll 114 = .ok (.i2l, 1) := by decide +kernel
theorem dX9_cutAll_115 : decode cX9_cutAll 115 = .ok (.ladd, 1) := by decide +kernel
theorem dX9_cutAll_116 : decode cX9_cutAll 116 = .ok (.goto 5, 3) := by decide +kernel
theorem dX9_cutAll_119 : decode cX9_cutAll 119 = .ok (.lload 5, 2) := by decide +kernel
theorem dX9_cutAll_121 : decode cX9_cutAll 121 = .ok (.lstore 5, 2) := by decide +kernel
theorem dX9_cutAll_123 : decode cX9_cutAll 123 = .ok (.iinc 2 1, 3) := by decide +kernel
theorem dX9_cutAll_126 : decode cX9_cutAll 126 = .ok (.goto (-56), 3) := by decide +kernel
theorem dX9_cutAll_129 : decode cX9_cutAll 129 = .ok (.aload_n 0, 1) := by decide +kernel
theorem dX9_cutAll_130 : decode cX9_cutAll 130 = .ok (.getfield 24, 3) := by decide +kernel
theorem dX9_cutAll_133 : decode cX9_cutAll 133 = .ok (.iload_n 1, 1) := by decide +kernel
theorem dX9_cutAll_134 : decode cX9_cutAll 134 = .ok (.iload_n 2, 1) := by decide +kernel
theorem dX9_cutAll_135 : decode cX9_cutAll 135 = .ok (.iload 4, 2) := by decide +kernel
theorem dX9_cutAll_137 : decode cX9_cutAll 137 = .ok (.isub, 1) := by decide +kernel
theorem dX9_cutAll_138 : decode cX9_cutAll 138 = .ok (.bipush 8, 2) := by decide +kernel
theorem dX9_cutAll_140 : decode cX9_cutAll 140 = .ok (.if_icmp .le 7, 3) := by decide +kernel
theorem dX9_cutAll_143 : decode cX9_cutAll 143 = .ok (.iconst 4, 1) := by decide +kernel
theorem dX9_cutAll_144 : decode cX9_cutAll 144 = .ok (.goto 4, 3) := by decide +kernel
theorem dX9_cutAll_147 : decode cX9_cutAll 147 = .ok (.iconst 1, 1) := by decide +kernel
theorem dX9_cutAll_148 : decode cX9_cutAll 148 = .ok (.iastore, 1) := by decide +kernel
theorem dX9_cutAll_149 : decode cX9_cutAll 149 = .ok (.goto 116, 3) := by decide +kernel
theorem dX9_cutAll_152 : decode cX9_cutAll 152 = .ok (.iload_n 3, 1) := by decide +kernel
theorem dX9_cutAll_153 : decode cX9_cutAll 153 = .ok (.invokestatic 154, 3) := by decide +kernel
theorem dX9_cutAll_156 : decode cX9_cutAll 156 = .ok (.ifCond .eq 84, 3) := by decide +kernel
theorem dX9_cutAll_159 : decode cX9_cutAll 159 = .ok (.iload_n 2, 1) := by decide +kernel
theorem dX9_cutAll_160 : decode cX9_cutAll 160 = .ok (.aload_n 0, 1) := by decide +kernel
theorem dX9_cutAll_161 : decode cX9_cutAll 161 = .ok (.getfield 145, 3) := by decide +kernel
theorem dX9_cutAll_164 : decode cX9_cutAll 164 = .ok (.if_icmp .ge 54, 3) := by decide +kernel
theorem dX9_cutAll_167 : decode cX9_cutAll 167 = .ok (.aload_n 0, 1) := by decide +kernel
theorem dX9_cutAll_168 : decode cX9_cutAll 168 = .ok (.getfield 14, 3) := by decide +kernel
theorem dX9_cutAll_171 : decode cX9_cutAll 171 = .ok (.iload_n 2, 1) := by decide +kernel
theorem dX9_cutAll_172 : decode cX9_cutAll 172 = .ok (.iaload, 1) := by decide +kernel
theorem dX9_cutAll_173 : decode cX9_cutAll 173 = .ok (.invokestatic 154, 3) := by decide +kernel
theorem dX9_cutAll_176 : decode cX9_cutAll 176 = .ok (.ifCond .eq 42, 3) := by decide +kernel
theorem dX9_cutAll_179 : decode cX9_cutAll 179 = .ok (.iload_n 2, 1) := by decide +kernel
theorem dX9_cutAll_180 : decode cX9_cutAll 180 = .ok (.iload 4, 2) := by decide +kernel
theorem dX9_cutAll_182 : decode cX9_cutAll 182 = .ok (.isub, 1) := by decide +kernel
theorem dX9_cutAll_183 : decode cX9_cutAll 183 = .ok (.iconst 5, 1) := by decide +kernel
theorem dX9_cutAll_184 : decode cX9_cutAll 184 = .ok (.if_icmp .ge 24, 3) := by decide +kernel
theorem dX9_cutAll_187 : decode cX9_cutAll 187 = .ok (.ldc2_w 157, 3) := by decide +kernel
theorem dX9_cutAll_190 : decode cX9_cutAll 190 = .ok (.lload 5, 2) := by decide +kernel
theorem dX9_cutAll_192 : decode cX9_cutAll 192 = .ok (.lmul, 1) := by decide +kernel
theorem dX9_cutAll_193 : decode cX9_cutAll 193 = .ok (.aload_n 0, 1) := by decide +kernel
theorem dX9_cutAll_194 : decode cX9_cutAll 194 = .ok (.getfield 14, 3) := by decide +kernel
theorem dX9_cutAll_197 : decode cX9_cutAll 197 = .ok (.iload_n 2, 1) := by decide +kernel
theorem dX9_cutAll_198 : decode cX9_cutAll 198 = .ok (.iaload, 1) := by decide +kernel
theorem dX9_cutAll_199 : decode cX9_cutAll 199 = .ok (.i2l, 1) := by decide +kernel
theorem dX9_cutAll_200 : decode cX9_cutAll 200 = .ok (.ladd, 1) := by decide +kernel
theorem dX9_cutAll_201 : decode cX9_cutAll 201 = .ok (.ldc2_w 159, 3) := by decide +kernel
theorem dX9_cutAll_204 : decode cX9_cutAll 204 = .ok (.lsub, 1) := by decide +kernel
theorem dX9_cutAll_205 : decode cX9_cutAll 205 = .ok (.goto 5, 3) := by decide +kernel
theorem dX9_cutAll_208 : decode cX9_cutAll 208 = .ok (.lload 5, 2) := by decide +kernel
theorem dX9_cutAll_210 : decode cX9_cutAll 210 = .ok (.lstore 5, 2) := by decide +kernel
theorem dX9_cutAll_212 : decode cX9_cutAll 212 = .ok (.iinc 2 1, 3) := by decide +kernel
theorem dX9_cutAll_215 : decode cX9_cutAll 215 = .ok (.goto (-56), 3) := by decide +kernel
theorem dX9_cutAll_218 : decode cX9_cutAll 218 = .ok (.aload_n 0, 1) := by decide +kernel
theorem dX9_cutAll_219 : decode cX9_cutAll 219 = .ok (.getfield 24, 3) := by decide +kernel
theorem dX9_cutAll_222 : decode cX9_cutAll 222 = .ok (.iload_n 1, 1) := by decide +kernel
theorem dX9_cutAll_223 : decode cX9_cutAll 223 = .ok (.iload_n 2, 1) := by decide +kernel
theorem dX9_cutAll_224 : decode cX9_cutAll 224 = .ok (.iload 4, 2) := by decide +kernel
theorem dX9_cutAll_226 : decode cX9_cutAll 226 = .ok (.isub, 1) := by decide +kernel
theorem dX9_cutAll_227 : decode cX9_cutAll 227 = .ok (.iconst 5, 1) := by decide +kernel
theorem dX9_cutAll_228 : decode cX9_cutAll 228 = .ok (.if_icmp .le 7, 3) := by decide +kernel
theorem dX9_cutAll_231 : decode cX9_cutAll 231 = .ok (.iconst 4, 1) := by decide +kernel
theorem dX9_cutAll_232 : decode cX9_cutAll 232 = .ok (.goto 4, 3) := by decide +kernel
theorem dX9_cutAll_235 : decode cX9_cutAll 235 = .ok (.iconst 2, 1) := by decide +kernel
theorem dX9_cutAll_236 : decode cX9_cutAll 236 = .ok (.iastore, 1) := by decide +kernel
theorem dX9_cutAll_237 : decode cX9_cutAll 237 = .ok (.goto 28, 3) := by decide +kernel
theorem dX9_cutAll_240 : decode cX9_cutAll 240 = .ok (.iload_n 3, 1) := by decide +kernel
theorem dX9_cutAll_241 : decode cX9_cutAll 241 = .ok (.i2l, 1) := by decide +kernel
theorem dX9_cutAll_242 : decode cX9_cutAll 242 = .ok (.lstore 5, 2) := by decide +kernel
theorem dX9_cutAll_244 : decode cX9_cutAll 244 = .ok (.aload_n 0, 1) := by decide +kernel
theorem dX9_cutAll_245 : decode cX9_cutAll 245 = .ok (.getfield 24, 3) := by decide +kernel
theorem dX9_cutAll_248 : decode cX9_cutAll 248 = .ok (.iload_n 1, 1) := by decide +kernel
theorem dX9_cutAll_249 : decode cX9_cutAll 249 = .ok (.iload_n 3, 1) := by decide +kernel
theorem dX9_cutAll_250 : decode cX9_cutAll 250 = .ok (.invokestatic 161, 3) := by decide +kernel
theorem dX9_cutAll_253 : decode cX9_cutAll 253 = .ok (.ifCond .eq 7, 3) := by decide +kernel
theorem dX9_cutAll_256 : decode cX9_cutAll 256 = .ok (.iconst 3, 1) := by decide +kernel
theorem dX9_cutAll_257 : decode cX9_cutAll 257 = .ok (.goto 4, 3) := by decide +kernel
theorem dX9_cutAll_260 : decode cX9_cutAll 260 = .ok (.iconst 4, 1) := by decide +kernel
theorem dX9_cutAll_261 : decode cX9_cutAll 261 = .ok (.iastore, 1) := by decide +kernel
theorem dX9_cutAll_262 : decode cX9_cutAll 262 = .ok (.iinc 2 1, 3) := by decide +kernel
theorem dX9_cutAll_265 : decode cX9_cutAll 265 = .ok (.aload_n 0, 1) := by decide +kernel
theorem dX9_cutAll_266 : decode cX9_cutAll 266 = .ok (.getfield 30, 3) := by decide +kernel
theorem dX9_cutAll_269 : decode cX9_cutAll 269 = .ok (.iload_n 1, 1) := by decide +kernel
theorem dX9_cutAll_270 : decode cX9_cutAll 270 = .ok (.lload 5, 2) := by decide +kernel
theorem dX9_cutAll_272 : decode cX9_cutAll 272 = .ok (.lastore, 1) := by decide +kernel
theorem dX9_cutAll_273 : decode cX9_cutAll 273 = .ok (.iinc 1 1, 3) := by decide +kernel
theorem dX9_cutAll_276 : decode cX9_cutAll 276 = .ok (.goto (-259), 3) := by decide +kernel
theorem dX9_cutAll_279 : decode cX9_cutAll 279 = .ok (.aload_n 0, 1) := by decide +kernel
theorem dX9_cutAll_280 : decode cX9_cutAll 280 = .ok (.getfield 24, 3) := by decide +kernel
theorem dX9_cutAll_283 : decode cX9_cutAll 283 = .ok (.iload_n 1, 1) := by decide +kernel
theorem dX9_cutAll_284 : decode cX9_cutAll 284 = .ok (.iconst 0, 1) := by decide +kernel
theorem dX9_cutAll_285 : decode cX9_cutAll 285 = .ok (.iastore, 1) := by decide +kernel
theorem dX9_cutAll_286 : decode cX9_cutAll 286 = .ok (.aload_n 0, 1) := by decide +kernel
theorem dX9_cutAll_287 : decode cX9_cutAll 287 = .ok (.getfield 27, 3) := by decide +kernel
theorem dX9_cutAll_290 : decode cX9_cutAll 290 = .ok (.iload_n 1, 1) := by decide +kernel
theorem dX9_cutAll_291 : decode cX9_cutAll 291 = .ok (.aload_n 0, 1) := by decide +kernel
theorem dX9_cutAll_292 : decode cX9_cutAll 292 = .ok (.getfield 145, 3) := by decide +kernel
theorem dX9_cutAll_295 : decode cX9_cutAll 295 = .ok (.iastore, 1) := by decide +kernel
theorem dX9_cutAll_296 : decode cX9_cutAll 296 = .ok (.aload_n 0, 1) := by decide +kernel
theorem dX9_cutAll_297 : decode cX9_cutAll 297 = .ok (.iconst 0, 1) := by decide +kernel
theorem dX9_cutAll_298 : decode cX9_cutAll 298 = .ok (.putfield 164, 3) := by decide +kernel
theorem dX9_cutAll_301 : decode cX9_cutAll 301 = .ok (.aload_n 0, 1) := by decide +kernel
theorem dX9_cutAll_302 : decode cX9_cutAll 302 = .ok (.iconst 0, 1) := by decide +kernel
theorem dX9_cutAll_303 : decode cX9_cutAll 303 = .ok (.putfield 167, 3) := by decide +kernel
theorem dX9_cutAll_306 : decode cX9_cutAll 306 = .ok (.return_, 1) := by decide +kernel
theorem dX9_dx_0 : decode cX9_dx 0 = .ok (.iload_n 0, 1) := by decide +kernel
theorem dX9_dx_1 : decode cX9_dx 1 = .ok (.bipush 8, 2) := by decide +kernel
theorem dX9_dx_3 : decode cX9_dx 3 = .ok (.isub, 1) := by decide +kernel
theorem dX9_dx_4 : decode cX9_dx 4 = .ok (.bipush 31, 2) := by decide +kernel
theorem dX9_dx_6 : decode cX9_dx 6 = .ok (.iand, 1) := by decide +kernel
theorem dX9_dx_7 : decode cX9_dx 7 = .ok (.invokestatic 317, 3) := by decide +kernel
theorem dX9_dx_10 : decode cX9_dx 10 = .ok (.ireturn, 1) := by decide +kernel
theorem dX9_dy_0 : decode cX9_dy 0 = .ok (.iload_n 0, 1) := by decide +kernel
theorem dX9_dy_1 : decode cX9_dy 1 = .ok (.bipush 16, 2) := by decide +kernel
theorem dX9_dy_3 : decode cX9_dy 3 = .ok (.if_icmp .le 10, 3) := by decide +kernel
theorem dX9_dy_6 : decode cX9_dy 6 = .ok (.bipush 32, 2) := by decide +kernel
theorem dX9_dy_8 : decode cX9_dy 8 = .ok (.iload_n 0, 1) := by decide +kernel
theorem dX9_dy_9 : decode cX9_dy 9 = .ok (.isub, 1) := by decide +kernel
theorem dX9_dy_10 : decode cX9_dy 10 = .ok (.goto 4, 3) := by decide +kernel
theorem dX9_dy_13 : decode cX9_dy 13 = .ok (.iload_n 0, 1) := by decide +kernel
theorem dX9_dy_14 : decode cX9_dy 14 = .ok (.istore_n 1, 1) := by decide +kernel
theorem dX9_dy_15 : decode cX9_dy 15 = .ok (.iload_n 1, 1) := by decide +kernel
theorem dX9_dy_16 : decode cX9_dy 16 = .ok (.bipush 8, 2) := by decide +kernel
theorem dX9_dy_18 : decode cX9_dy 18 = .ok (.if_icmp .le 10, 3) := by decide +kernel
theorem dX9_dy_21 : decode cX9_dy 21 = .ok (.bipush 16, 2) := by decide +kernel
theorem dX9_dy_23 : decode cX9_dy 23 = .ok (.iload_n 1, 1) := by decide +kernel
theorem dX9_dy_24 : decode cX9_dy 24 = .ok (.isub, 1) := by decide +kernel
theorem dX9_dy_25 : decode cX9_dy 25 = .ok (.goto 4, 3) := by decide +kernel
theorem dX9_dy_28 : decode cX9_dy 28 = .ok (.iload_n 1, 1) := by decide +kernel
theorem dX9_dy_29 : decode cX9_dy 29 = .ok (.istore_n 2, 1) := by decide +kernel
theorem dX9_dy_30 : decode cX9_dy 30 = .ok (.iload_n 2, 1) := by decide +kernel
theorem dX9_dy_31 : decode cX9_dy 31 = .ok (.iconst 2, 1) := by decide +kernel
theorem dX9_dy_32 : decode cX9_dy 32 = .ok (.if_icmp .ge 8, 3) := by decide +kernel
theorem dX9_dy_35 : decode cX9_dy 35 = .ok (.bipush 16, 2) := by decide +kernel
theorem dX9_dy_37 : decode cX9_dy 37 = .ok (.goto 65, 3) := by decide +kernel
theorem dX9_dy_40 : decode cX9_dy 40 = .ok (.iload_n 2, 1) := by decide +kernel
theorem dX9_dy_41 : decode cX9_dy 41 = .ok (.iconst 2, 1) := by decide +kernel
theorem dX9_dy_42 : decode cX9_dy 42 = .ok (.if_icmp .ne 8, 3) := by decide +kernel
theorem dX9_dy_45 : decode cX9_dy 45 = .ok (.bipush 15, 2) := by decide +kernel
theorem dX9_dy_47 : decode cX9_dy 47 = .ok (.goto 55, 3) := by decide +kernel
theorem dX9_dy_50 : decode cX9_dy 50 = .ok (.iload_n 2, 1) := by decide +kernel
theorem dX9_dy_51 : decode cX9_dy 51 = .ok (.iconst 3, 1) := by decide +kernel
theorem dX9_dy_52 : decode cX9_dy 52 = .ok (.if_icmp .ne 8, 3) := by decide +kernel
theorem dX9_dy_55 : decode cX9_dy 55 = .ok (.bipush 13, 2) := by decide +kernel
theorem dX9_dy_57 : decode cX9_dy 57 = .ok (.goto 45, 3) := by decide +kernel
theorem dX9_dy_60 : decode cX9_dy 60 = .ok (.iload_n 2, 1) := by decide +kernel
theorem dX9_dy_61 : decode cX9_dy 61 = .ok (.iconst 4, 1) := by decide +kernel
theorem dX9_dy_62 : decode cX9_dy 62 = .ok (.if_icmp .ne 8, 3) := by decide +kernel
theorem dX9_dy_65 : decode cX9_dy 65 = .ok (.bipush 11, 2) := by decide +kernel
theorem dX9_dy_67 : decode cX9_dy 67 = .ok (.goto 35, 3) := by decide +kernel
theorem dX9_dy_70 : decode cX9_dy 70 = .ok (.iload_n 2, 1) := by decide +kernel
theorem dX9_dy_71 : decode cX9_dy 71 = .ok (.iconst 5, 1) := by decide +kernel
theorem dX9_dy_72 : decode cX9_dy 72 = .ok (.if_icmp .ne 8, 3) := by decide +kernel
theorem dX9_dy_75 : decode cX9_dy 75 = .ok (.bipush 9, 2) := by decide +kernel
theorem dX9_dy_77 : decode cX9_dy 77 = .ok (.goto 25, 3) := by decide +kernel
theorem dX9_dy_80 : decode cX9_dy 80 = .ok (.iload_n 2, 1) := by decide +kernel
theorem dX9_dy_81 : decode cX9_dy 81 = .ok (.bipush 6, 2) := by decide +kernel
theorem dX9_dy_83 : decode cX9_dy 83 = .ok (.if_icmp .ne 8, 3) := by decide +kernel
theorem dX9_dy_86 : decode cX9_dy 86 = .ok (.bipush 6, 2) := by decide +kernel
theorem dX9_dy_88 : decode cX9_dy 88 = .ok (.goto 14, 3) := by decide +kernel
theorem dX9_dy_91 : decode cX9_dy 91 = .ok (.iload_n 2, 1) := by decide +kernel
theorem dX9_dy_92 : decode cX9_dy 92 = .ok (.bipush 7, 2) := by decide +kernel
theorem dX9_dy_94 : decode cX9_dy 94 = .ok (.if_icmp .ne 7, 3) := by decide +kernel
theorem dX9_dy_97 : decode cX9_dy 97 = .ok (.iconst 3, 1) := by decide +kernel
theorem dX9_dy_98 : decode cX9_dy 98 = .ok (.goto 4, 3) := by decide +kernel
theorem dX9_dy_101 : decode cX9_dy 101 = .ok (.iconst 0, 1) := by decide +kernel
theorem dX9_dy_102 : decode cX9_dy 102 = .ok (.istore_n 3, 1) := by decide +kernel
theorem dX9_dy_103 : decode cX9_dy 103 = .ok (.iload_n 1, 1) := by decide +kernel
theorem dX9_dy_104 : decode cX9_dy 104 = .ok (.bipush 8, 2) := by decide +kernel
theorem dX9_dy_106 : decode cX9_dy 106 = .ok (.if_icmp .le 8, 3) := by decide +kernel
theorem dX9_dy_109 : decode cX9_dy 109 = .ok (.iload_n 3, 1) := by decide +kernel
theorem dX9_dy_110 : decode cX9_dy 110 = .ok (.ineg, 1) := by decide +kernel
theorem dX9_dy_111 : decode cX9_dy 111 = .ok (.goto 4, 3) := by decide +kernel
theorem dX9_dy_114 : decode cX9_dy 114 = .ok (.iload_n 3, 1) := by decide +kernel
theorem dX9_dy_115 : decode cX9_dy 115 = .ok (.ireturn, 1) := by decide +kernel
theorem dX9_emit_0 : decode cX9_emit 0 = .ok (.sipush 2200, 3) := by decide +kernel
theorem dX9_emit_3 : decode cX9_emit 3 = .ok (.aload_n 0, 1) := by decide +kernel
theorem dX9_emit_4 : decode cX9_emit 4 = .ok (.getfield 183, 3) := by decide +kernel
theorem dX9_emit_7 : decode cX9_emit 7 = .ok (.imul, 1) := by decide +kernel
theorem dX9_emit_8 : decode cX9_emit 8 = .ok (.aload_n 0, 1) := by decide +kernel
theorem dX9_emit_9 : decode cX9_emit 9 = .ok (.getfield 186, 3) := by decide +kernel
theorem dX9_emit_12 : decode cX9_emit 12 = .ok (.iadd, 1) := by decide +kernel
theorem dX9_emit_13 : decode cX9_emit 13 = .ok (.istore 4, 2) := by decide +kernel
theorem dX9_emit_15 : decode cX9_emit 15 = .ok (.aload_n 0, 1) := by decide +kernel
theorem dX9_emit_16 : decode cX9_emit 16 = .ok (.getfield 71, 3) := by decide +kernel
theorem dX9_emit_19 : decode cX9_emit 19 = .ok (.iload 4, 2) := by decide +kernel
theorem dX9_emit_21 : decode cX9_emit 21 = .ok (.iload_n 1, 1) := by decide +kernel
theorem dX9_emit_22 : decode cX9_emit 22 = .ok (.iastore, 1) := by decide +kernel
theorem dX9_emit_23 : decode cX9_emit 23 = .ok (.aload_n 0, 1) := by decide +kernel
theorem dX9_emit_24 : decode cX9_emit 24 = .ok (.getfield 74, 3) := by decide +kernel
theorem dX9_emit_27 : decode cX9_emit 27 = .ok (.iload 4, 2) := by decide +kernel
theorem dX9_emit_29 : decode cX9_emit 29 = .ok (.iload_n 2, 1) := by decide +kernel
theorem dX9_emit_30 : decode cX9_emit 30 = .ok (.iastore, 1) := by decide +kernel
theorem dX9_emit_31 : decode cX9_emit 31 = .ok (.aload_n 0, 1) := by decide +kernel
theorem dX9_emit_32 : decode cX9_emit 32 = .ok (.getfield 77, 3) := by decide +kernel
theorem dX9_emit_35 : decode cX9_emit 35 = .ok (.iload 4, 2) := by decide +kernel
theorem dX9_emit_37 : decode cX9_emit 37 = .ok (.iload_n 3, 1) := by decide +kernel
theorem dX9_emit_38 : decode cX9_emit 38 = .ok (.iastore, 1) := by decide +kernel
theorem dX9_emit_39 : decode cX9_emit 39 = .ok (.aload_n 0, 1) := by decide +kernel
theorem dX9_emit_40 : decode cX9_emit 40 = .ok (.dup, 1) := by decide +kernel
theorem dX9_emit_41 : decode cX9_emit 41 = .ok (.getfield 186, 3) := by decide +kernel
theorem dX9_emit_44 : decode cX9_emit 44 = .ok (.iconst 1, 1) := by decide +kernel
theorem dX9_emit_45 : decode cX9_emit 45 = .ok (.iadd, 1) := by decide +kernel
theorem dX9_emit_46 : decode cX9_emit 46 = .ok (.putfield 186, 3) := by decide +kernel
theorem dX9_emit_49 : decode cX9_emit 49 = .ok (.iload 4, 2) := by decide +kernel
theorem dX9_emit_51 : decode cX9_emit 51 = .ok (.ireturn, 1) := by decide +kernel
theorem dX9_endWorks_0 : decode cX9_endWorks 0 = .ok (.iconst 0, 1) := by decide +kernel
theorem dX9_endWorks_1 : decode cX9_endWorks 1 = .ok (.istore_n 1, 1) := by decide +kernel
theorem dX9_endWorks_2 : decode cX9_endWorks 2 = .ok (.iload_n 1, 1) := by decide +kernel
theorem dX9_endWorks_3 : decode cX9_endWorks 3 = .ok (.aload_n 0, 1) := by decide +kernel
theorem dX9_endWorks_4 : decode cX9_endWorks 4 = .ok (.getfield 138, 3) := by decide +kernel
theorem dX9_endWorks_7 : decode cX9_endWorks 7 = .ok (.if_icmp .ge 62, 3) := by decide +kernel
theorem dX9_endWorks_10 : decode cX9_endWorks 10 = .ok (.aload_n 0, 1) := by decide +kernel
theorem dX9_endWorks_11 : decode cX9_endWorks 11 = .ok (.getfield 95, 3) := by decide +kernel
theorem dX9_endWorks_14 : decode cX9_endWorks 14 = .ok (.iload_n 1, 1) := by decide +kernel
theorem dX9_endWorks_15 : decode cX9_endWorks 15 = .ok (.iaload, 1) := by decide +kernel
theorem dX9_endWorks_16 : decode cX9_endWorks 16 = .ok (.istore_n 2, 1) := by decide +kernel
theorem dX9_endWorks_17 : decode cX9_endWorks 17 = .ok (.iload_n 2, 1) := by decide +kernel
theorem dX9_endWorks_18 : decode cX9_endWorks 18 = .ok (.ifCond .lt 45, 3) := by decide +kernel
theorem dX9_endWorks_21 : decode cX9_endWorks 21 = .ok (.aload_n 0, 1) := by decide +kernel
theorem dX9_endWorks_22 : decode cX9_endWorks 22 = .ok (.getfield 107, 3) := by decide +kernel
theorem dX9_endWorks_25 : decode cX9_endWorks 25 = .ok (.iload_n 2, 1) := by decide +kernel
theorem dX9_endWorks_26 : decode cX9_endWorks 26 = .ok (.iaload, 1) := by decide +kernel
theorem dX9_endWorks_27 : decode cX9_endWorks 27 = .ok (.aload_n 0, 1) := by decide +kernel
theorem dX9_endWorks_28 : decode cX9_endWorks 28 = .ok (.getfield 242, 3) := by decide +kernel
theorem dX9_endWorks_31 : decode cX9_endWorks 31 = .ok (.if_icmp .ne 32, 3) := by decide +kernel
theorem dX9_endWorks_34 : decode cX9_endWorks 34 = .ok (.aload_n 0, 1) := by decide +kernel
theorem dX9_endWorks_35 : decode cX9_endWorks 35 = .ok (.aload_n 0, 1) := by decide +kernel
theorem dX9_endWorks_36 : decode cX9_endWorks 36 = .ok (.getfield 98, 3) := by decide +kernel
theorem dX9_endWorks_39 : decode cX9_endWorks 39 = .ok (.iload_n 2, 1) := by decide +kernel
theorem dX9_endWorks_40 : decode cX9_endWorks 40 = .ok (.iaload, 1) := by decide +kernel
theorem dX9_endWorks_41 : decode cX9_endWorks 41 = .ok (.iconst 1, 1) := by decide +kernel
theorem dX9_endWorks_42 : decode cX9_endWorks 42 = .ok (.isub, 1) := by decide +kernel
theorem dX9_endWorks_43 : decode cX9_endWorks 43 = .ok (.aload_n 0, 1) := by decide +kernel
theorem dX9_endWorks_44 : decode cX9_endWorks 44 = .ok (.getfield 101, 3) := by decide +kernel
theorem dX9_endWorks_47 : decode cX9_endWorks 47 = .ok (.iload_n 2, 1) := by decide +kernel
theorem dX9_endWorks_48 : decode cX9_endWorks 48 = .ok (.iaload, 1) := by decide +kernel
theorem dX9_endWorks_49 : decode cX9_endWorks 49 = .ok (.aload_n 0, 1) := by decide +kernel
theorem dX9_endWorks_50 : decode cX9_endWorks 50 = .ok (.getfield 104, 3) := by decide +kernel
theorem dX9_endWorks_53 : decode cX9_endWorks 53 = .ok (.iload_n 2, 1) := by decide +kernel
theorem dX9_endWorks_54 : decode cX9_endWorks 54 = .ok (.iaload, 1) := by decide +kernel
theorem dX9_endWorks_55 : decode cX9_endWorks 55 = .ok (.invokevirtual 271, 3) := by decide +kernel
theorem dX9_endWorks_58 : decode cX9_endWorks 58 = .ok (.aload_n 0, 1) := by decide +kernel
theorem dX9_endWorks_59 : decode cX9_endWorks 59 = .ok (.iload_n 2, 1) := by decide +kernel
theorem dX9_endWorks_60 : decode cX9_endWorks 60 = .ok (.invokevirtual 275, 3) := by decide +kernel
theorem dX9_endWorks_63 : decode cX9_endWorks 63 = .ok (.iinc 1 1, 3) := by decide +kernel
theorem dX9_endWorks_66 : decode cX9_endWorks 66 = .ok (.goto (-64), 3) := by decide +kernel
theorem dX9_endWorks_69 : decode cX9_endWorks 69 = .ok (.return_, 1) := by decide +kernel
theorem dX9_ended_0 : decode cX9_ended 0 = .ok (.iload_n 1, 1) := by decide +kernel
theorem dX9_ended_1 : decode cX9_ended 1 = .ok (.ifCond .ne 33, 3) := by decide +kernel
theorem dX9_ended_4 : decode cX9_ended 4 = .ok (.aload_n 0, 1) := by decide +kernel
theorem dX9_ended_5 : decode cX9_ended 5 = .ok (.getfield 83, 3) := by decide +kernel
theorem dX9_ended_8 : decode cX9_ended 8 = .ok (.iload_n 2, 1) := by decide +kernel
theorem dX9_ended_9 : decode cX9_ended 9 = .ok (.iconst 1, 1) := by decide +kernel
theorem dX9_ended_10 : decode cX9_ended 10 = .ok (.iastore, 1) := by decide +kernel
theorem dX9_ended_11 : decode cX9_ended 11 = .ok (.aload_n 0, 1) := by decide +kernel
theorem dX9_ended_12 : decode cX9_ended 12 = .ok (.getfield 86, 3) := by decide +kernel
theorem dX9_ended_15 : decode cX9_ended 15 = .ok (.iconst 2, 1) := by decide +kernel
theorem dX9_ended_16 : decode cX9_ended 16 = .ok (.iload_n 2, 1) := by decide +kernel
theorem dX9_ended_17 : decode cX9_ended 17 = .ok (.imul, 1) := by decide +kernel
theorem dX9_ended_18 : decode cX9_ended 18 = .ok (.iconst 1, 1) := by decide +kernel
theorem dX9_ended_19 : decode cX9_ended 19 = .ok (.iastore, 1) := by decide +kernel
theorem dX9_ended_20 : decode cX9_ended 20 = .ok (.aload_n 0, 1) := by decide +kernel
theorem dX9_ended_21 : decode cX9_ended 21 = .ok (.getfield 86, 3) := by decide +kernel
theorem dX9_ended_24 : decode cX9_ended 24 = .ok (.iconst 2, 1) := by decide +kernel
theorem dX9_ended_25 : decode cX9_ended 25 = .ok (.iload_n 2, 1) := by decide +kernel
theorem dX9_ended_26 : decode cX9_ended 26 = .ok (.imul, 1) := by decide +kernel
theorem dX9_ended_27 : decode cX9_ended 27 = .ok (.iconst 1, 1) := by decide +kernel
theorem dX9_ended_28 : decode cX9_ended 28 = .ok (.iadd, 1) := by decide +kernel
theorem dX9_ended_29 : decode cX9_ended 29 = .ok (.iconst 1, 1) := by decide +kernel
theorem dX9_ended_30 : decode cX9_ended 30 = .ok (.iastore, 1) := by decide +kernel
theorem dX9_ended_31 : decode cX9_ended 31 = .ok (.goto 129, 3) := by decide +kernel
theorem dX9_ended_34 : decode cX9_ended 34 = .ok (.iload_n 1, 1) := by decide +kernel
theorem dX9_ended_35 : decode cX9_ended 35 = .ok (.iconst 1, 1) := by decide +kernel
theorem dX9_ended_36 : decode cX9_ended 36 = .ok (.if_icmp .ne 33, 3) := by decide +kernel
theorem dX9_ended_39 : decode cX9_ended 39 = .ok (.aload_n 0, 1) := by decide +kernel
theorem dX9_ended_40 : decode cX9_ended 40 = .ok (.getfield 83, 3) := by decide +kernel
theorem dX9_ended_43 : decode cX9_ended 43 = .ok (.iload_n 2, 1) := by decide +kernel
theorem dX9_ended_44 : decode cX9_ended 44 = .ok (.iconst 0, 1) := by decide +kernel
theorem dX9_ended_45 : decode cX9_ended 45 = .ok (.iastore, 1) := by decide +kernel
theorem dX9_ended_46 : decode cX9_ended 46 = .ok (.aload_n 0, 1) := by decide +kernel
theorem dX9_ended_47 : decode cX9_ended 47 = .ok (.getfield 86, 3) := by decide +kernel
theorem dX9_ended_50 : decode cX9_ended 50 = .ok (.iconst 2, 1) := by decide +kernel
theorem dX9_ended_51 : decode cX9_ended 51 = .ok (.iload_n 2, 1) := by decide +kernel
theorem dX9_ended_52 : decode cX9_ended 52 = .ok (.imul, 1) := by decide +kernel
theorem dX9_ended_53 : decode cX9_ended 53 = .ok (.iconst 0, 1) := by decide +kernel
theorem dX9_ended_54 : decode cX9_ended 54 = .ok (.iastore, 1) := by decide +kernel
theorem dX9_ended_55 : decode cX9_ended 55 = .ok (.aload_n 0, 1) := by decide +kernel
theorem dX9_ended_56 : decode cX9_ended 56 = .ok (.getfield 86, 3) := by decide +kernel
theorem dX9_ended_59 : decode cX9_ended 59 = .ok (.iconst 2, 1) := by decide +kernel
theorem dX9_ended_60 : decode cX9_ended 60 = .ok (.iload_n 2, 1) := by decide +kernel
theorem dX9_ended_61 : decode cX9_ended 61 = .ok (.imul, 1) := by decide +kernel
theorem dX9_ended_62 : decode cX9_ended 62 = .ok (.iconst 1, 1) := by decide +kernel
theorem dX9_ended_63 : decode cX9_ended 63 = .ok (.iadd, 1) := by decide +kernel
theorem dX9_ended_64 : decode cX9_ended 64 = .ok (.iconst 0, 1) := by decide +kernel
theorem dX9_ended_65 : decode cX9_ended 65 = .ok (.iastore, 1) := by decide +kernel
theorem dX9_ended_66 : decode cX9_ended 66 = .ok (.goto 94, 3) := by decide +kernel
theorem dX9_ended_69 : decode cX9_ended 69 = .ok (.iload_n 1, 1) := by decide +kernel
theorem dX9_ended_70 : decode cX9_ended 70 = .ok (.iconst 2, 1) := by decide +kernel
theorem dX9_ended_71 : decode cX9_ended 71 = .ok (.if_icmp .ne 13, 3) := by decide +kernel
theorem dX9_ended_74 : decode cX9_ended 74 = .ok (.aload_n 0, 1) := by decide +kernel
theorem dX9_ended_75 : decode cX9_ended 75 = .ok (.getfield 92, 3) := by decide +kernel
theorem dX9_ended_78 : decode cX9_ended 78 = .ok (.iload_n 2, 1) := by decide +kernel
theorem dX9_ended_79 : decode cX9_ended 79 = .ok (.iload_n 3, 1) := by decide +kernel
theorem dX9_ended_80 : decode cX9_ended 80 = .ok (.iastore, 1) := by decide +kernel
theorem dX9_ended_81 : decode cX9_ended 81 = .ok (.goto 79, 3) := by decide +kernel
theorem dX9_ended_84 : decode cX9_ended 84 = .ok (.aload_n 0, 1) := by decide +kernel
theorem dX9_ended_85 : decode cX9_ended 85 = .ok (.getfield 86, 3) := by decide +kernel
theorem dX9_ended_88 : decode cX9_ended 88 = .ok (.iload_n 2, 1) := by decide +kernel
theorem dX9_ended_89 : decode cX9_ended 89 = .ok (.iconst 0, 1) := by decide +kernel
theorem dX9_ended_90 : decode cX9_ended 90 = .ok (.iastore, 1) := by decide +kernel
theorem dX9_ended_91 : decode cX9_ended 91 = .ok (.aload_n 0, 1) := by decide +kernel
theorem dX9_ended_92 : decode cX9_ended 92 = .ok (.getfield 89, 3) := by decide +kernel
theorem dX9_ended_95 : decode cX9_ended 95 = .ok (.iload_n 2, 1) := by decide +kernel
theorem dX9_ended_96 : decode cX9_ended 96 = .ok (.iconst 0, 1) := by decide +kernel
theorem dX9_ended_97 : decode cX9_ended 97 = .ok (.iastore, 1) := by decide +kernel
theorem dX9_ended_98 : decode cX9_ended 98 = .ok (.iload_n 2, 1) := by decide +kernel
theorem dX9_ended_99 : decode cX9_ended 99 = .ok (.iconst 2, 1) := by decide +kernel
theorem dX9_ended_100 : decode cX9_ended 100 = .ok (.idiv, 1) := by decide +kernel
theorem dX9_ended_101 : decode cX9_ended 101 = .ok (.istore 4, 2) := by decide +kernel
theorem dX9_ended_103 : decode cX9_ended 103 = .ok (.aload_n 0, 1) := by decide +kernel
theorem dX9_ended_104 : decode cX9_ended 104 = .ok (.getfield 83, 3) := by decide +kernel
theorem dX9_ended_107 : decode cX9_ended 107 = .ok (.iload 4, 2) := by decide +kernel
theorem dX9_ended_109 : decode cX9_ended 109 = .ok (.aload_n 0, 1) := by decide +kernel
theorem dX9_ended_110 : decode cX9_ended 110 = .ok (.getfield 83, 3) := by decide +kernel
theorem dX9_ended_113 : decode cX9_ended 113 = .ok (.iload 4, 2) := by decide +kernel
theorem dX9_ended_115 : decode cX9_ended 115 = .ok (.iaload, 1) := by decide +kernel
theorem dX9_ended_116 : decode cX9_ended 116 = .ok (.iconst 2, 1) := by decide +kernel
theorem dX9_ended_117 : decode cX9_ended 117 = .ok (.if_icmp .ne 35, 3) := by decide +kernel
theorem dX9_ended_120 : decode cX9_ended 120 = .ok (.aload_n 0, 1) := by decide +kernel
theorem dX9_ended_121 : decode cX9_ended 121 = .ok (.getfield 86, 3) := by decide +kernel
theorem dX9_ended_124 : decode cX9_ended 124 = .ok (.iconst 2, 1) := by decide +kernel
theorem dX9_ended_125 : decode cX9_ended 125 = .ok (.iload 4, 2) := by decide +kernel
theorem dX9_ended_127 : decode cX9_ended 127 = .ok (.imul, 1) := by decide +kernel
theorem dX9_ended_128 : decode cX9_ended 128 = .ok (.iaload, 1) := by decide +kernel
theorem dX9_ended_129 : decode cX9_ended 129 = .ok (.iconst 2, 1) := by decide +kernel
theorem dX9_ended_130 : decode cX9_ended 130 = .ok (.if_icmp .eq 22, 3) := by decide +kernel
theorem dX9_ended_133 : decode cX9_ended 133 = .ok (.aload_n 0, 1) := by decide +kernel
theorem dX9_ended_134 : decode cX9_ended 134 = .ok (.getfield 86, 3) := by decide +kernel
theorem dX9_ended_137 : decode cX9_ended 137 = .ok (.iconst 2, 1) := by decide +kernel
theorem dX9_ended_138 : decode cX9_ended 138 = .ok (.iload 4, 2) := by decide +kernel
theorem dX9_ended_140 : decode cX9_ended 140 = .ok (.imul, 1) := by decide +kernel
theorem dX9_ended_141 : decode cX9_ended 141 = .ok (.iconst 1, 1) := by decide +kernel
theorem dX9_ended_142 : decode cX9_ended 142 = .ok (.iadd, 1) := by decide +kernel
theorem dX9_ended_143 : decode cX9_ended 143 = .ok (.iaload, 1) := by decide +kernel
theorem dX9_ended_144 : decode cX9_ended 144 = .ok (.iconst 2, 1) := by decide +kernel
theorem dX9_ended_145 : decode cX9_ended 145 = .ok (.if_icmp .eq 7, 3) := by decide +kernel
theorem dX9_ended_148 : decode cX9_ended 148 = .ok (.iconst 0, 1) := by decide +kernel
theorem dX9_ended_149 : decode cX9_ended 149 = .ok (.goto 10, 3) := by decide +kernel
theorem dX9_ended_152 : decode cX9_ended 152 = .ok (.aload_n 0, 1) := by decide +kernel
theorem dX9_ended_153 : decode cX9_ended 153 = .ok (.getfield 83, 3) := by decide +kernel
theorem dX9_ended_156 : decode cX9_ended 156 = .ok (.iload 4, 2) := by decide +kernel
theorem dX9_ended_158 : decode cX9_ended 158 = .ok (.iaload, 1) := by decide +kernel
theorem dX9_ended_159 : decode cX9_ended 159 = .ok (.iastore, 1) := by decide +kernel
theorem dX9_ended_160 : decode cX9_ended 160 = .ok (.return_, 1) := by decide +kernel
theorem dX9_expression_0 : decode cX9_expression 0 = .ok (.aload_n 0, 1) := by decide +kernel
theorem dX9_expression_1 : decode cX9_expression 1 = .ok (.invokevirtual 232, 3) := by decide +kernel
theorem dX9_expression_4 : decode cX9_expression 4 = .ok (.aload_n 0, 1) := by decide +kernel
theorem dX9_expression_5 : decode cX9_expression 5 = .ok (.bipush 60, 2) := by decide +kernel
theorem dX9_expression_7 : decode cX9_expression 7 = .ok (.invokevirtual 170, 3) := by decide +kernel
theorem dX9_expression_10 : decode cX9_expression 10 = .ok (.istore_n 1, 1) := by decide +kernel
theorem dX9_expression_11 : decode cX9_expression 11 = .ok (.iload_n 1, 1) := by decide +kernel
theorem dX9_expression_12 : decode cX9_expression 12 = .ok (.ifCond .ne 12, 3) := by decide +kernel
theorem dX9_expression_15 : decode cX9_expression 15 = .ok (.aload_n 0, 1) := by decide +kernel
theorem dX9_expression_16 : decode cX9_expression 16 = .ok (.bipush 61, 2) := by decide +kernel
theorem dX9_expression_18 : decode cX9_expression 18 = .ok (.invokevirtual 170, 3) := by decide +kernel
theorem dX9_expression_21 : decode cX9_expression 21 = .ok (.ifCond .eq 34, 3) := by decide +kernel
theorem dX9_expression_24 : decode cX9_expression 24 = .ok (.aload_n 0, 1) := by decide +kernel
theorem dX9_expression_25 : decode cX9_expression 25 = .ok (.dup, 1) := by decide +kernel
theorem dX9_expression_26 : decode cX9_expression 26 = .ok (.getfield 164, 3) := by decide +kernel
theorem dX9_expression_29 : decode cX9_expression 29 = .ok (.iconst 1, 1) := by decide +kernel
theorem dX9_expression_30 : decode cX9_expression 30 = .ok (.iadd, 1) := by decide +kernel
theorem dX9_expression_31 : decode cX9_expression 31 = .ok (.putfield 164, 3) := by decide +kernel
theorem dX9_expression_34 : decode cX9_expression 34 = .ok (.aload_n 0, 1) := by decide +kernel
theorem dX9_expression_35 : decode cX9_expression 35 = .ok (.invokevirtual 232, 3) := by decide +kernel
theorem dX9_expression_38 : decode cX9_expression 38 = .ok (.aload_n 0, 1) := by decide +kernel
theorem dX9_expression_39 : decode cX9_expression 39 = .ok (.iload_n 1, 1) := by decide +kernel
theorem dX9_expression_40 : decode cX9_expression 40 = .ok (.ifCond .eq 7, 3) := by decide +kernel
theorem dX9_expression_43 : decode cX9_expression 43 = .ok (.iconst 5, 1) := by decide +kernel
theorem dX9_expression_44 : decode cX9_expression 44 = .ok (.goto 5, 3) := by decide +kernel
theorem dX9_expression_47 : decode cX9_expression 47 = .ok (.bipush 6, 2) := by decide +kernel
theorem dX9_expression_49 : decode cX9_expression 49 = .ok (.iconst 0, 1) := by decide +kernel
theorem dX9_expression_50 : decode cX9_expression 50 = .ok (.iconst 0, 1) := by decide +kernel
theorem dX9_expression_51 : decode cX9_expression 51 = .ok (.invokevirtual 201, 3) := by decide +kernel
theorem dX9_expression_54 : decode cX9_expression 54 = .ok (.istore_n 2, 1) := by decide +kernel
theorem dX9_expression_55 : decode cX9_expression 55 = .ok (.return_, 1) := by decide +kernel
theorem dX9_feed_0 : decode cX9_feed 0 = .ok (.aload_n 0, 1) := by decide +kernel
theorem dX9_feed_1 : decode cX9_feed 1 = .ok (.iconst 0, 1) := by decide +kernel
theorem dX9_feed_2 : decode cX9_feed 2 = .ok (.putfield 1, 3) := by decide +kernel
theorem dX9_feed_5 : decode cX9_feed 5 = .ok (.aload_n 0, 1) := by decide +kernel
theorem dX9_feed_6 : decode cX9_feed 6 = .ok (.lload_n 1, 1) := by decide +kernel
theorem dX9_feed_7 : decode cX9_feed 7 = .ok (.invokevirtual 7, 3) := by decide +kernel
theorem dX9_feed_10 : decode cX9_feed 10 = .ok (.aload_n 0, 1) := by decide +kernel
theorem dX9_feed_11 : decode cX9_feed 11 = .ok (.lload_n 3, 1) := by decide +kernel
theorem dX9_feed_12 : decode cX9_feed 12 = .ok (.invokevirtual 7, 3) := by decide +kernel
theorem dX9_feed_15 : decode cX9_feed 15 = .ok (.aload_n 0, 1) := by decide +kernel
theorem dX9_feed_16 : decode cX9_feed 16 = .ok (.lload 5, 2) := by decide +kernel
theorem dX9_feed_18 : decode cX9_feed 18 = .ok (.invokevirtual 7, 3) := by decide +kernel
theorem dX9_feed_21 : decode cX9_feed 21 = .ok (.aload_n 0, 1) := by decide +kernel
theorem dX9_feed_22 : decode cX9_feed 22 = .ok (.getfield 11, 3) := by decide +kernel
theorem dX9_feed_25 : decode cX9_feed 25 = .ok (.ireturn, 1) := by decide +kernel
theorem dX9_force_0 : decode cX9_force 0 = .ok (.aload_n 0, 1) := by decide +kernel
theorem dX9_force_1 : decode cX9_force 1 = .ok (.invokevirtual 245, 3) := by decide +kernel
theorem dX9_force_4 : decode cX9_force 4 = .ok (.istore_n 1, 1) := by decide +kernel
theorem dX9_force_5 : decode cX9_force 5 = .ok (.iload_n 1, 1) := by decide +kernel
theorem dX9_force_6 : decode cX9_force 6 = .ok (.ifCond .ge 7, 3) := by decide +kernel
theorem dX9_force_9 : decode cX9_force 9 = .ok (.iconst 0, 1) := by decide +kernel
theorem dX9_force_10 : decode cX9_force 10 = .ok (.goto 9, 3) := by decide +kernel
theorem dX9_force_13 : decode cX9_force 13 = .ok (.aload_n 0, 1) := by decide +kernel
theorem dX9_force_14 : decode cX9_force 14 = .ok (.getfield 116, 3) := by decide +kernel
theorem dX9_force_17 : decode cX9_force 17 = .ok (.iload_n 1, 1) := by decide +kernel
theorem dX9_force_18 : decode cX9_force 18 = .ok (.iaload, 1) := by decide +kernel
theorem dX9_force_19 : decode cX9_force 19 = .ok (.ireturn, 1) := by decide +kernel
theorem dX9_foretell_0 : decode cX9_foretell 0 = .ok (.aload_n 0, 1) := by decide +kernel
theorem dX9_foretell_1 : decode cX9_foretell 1 = .ok (.iconst 0, 1) := by decide +kernel
theorem dX9_foretell_2 : decode cX9_foretell 2 = .ok (.putfield 1, 3) := by decide +kernel
theorem dX9_foretell_5 : decode cX9_foretell 5 = .ok (.iload_n 1, 1) := by decide +kernel
theorem dX9_foretell_6 : decode cX9_foretell 6 = .ok (.ifCond .lt 29, 3) := by decide +kernel
theorem dX9_foretell_9 : decode cX9_foretell 9 = .ok (.iload_n 1, 1) := by decide +kernel
theorem dX9_foretell_10 : decode cX9_foretell 10 = .ok (.bipush 8, 2) := by decide +kernel
theorem dX9_foretell_12 : decode cX9_foretell 12 = .ok (.if_icmp .ge 23, 3) := by decide +kernel
theorem dX9_foretell_15 : decode cX9_foretell 15 = .ok (.iload_n 2, 1) := by decide +kernel
theorem dX9_foretell_16 : decode cX9_foretell 16 = .ok (.ifCond .lt 19, 3) := by decide +kernel
theorem dX9_foretell_19 : decode cX9_foretell 19 = .ok (.iload_n 2, 1) := by decide +kernel
theorem dX9_foretell_20 : decode cX9_foretell 20 = .ok (.bipush 31, 2) := by decide +kernel
theorem dX9_foretell_22 : decode cX9_foretell 22 = .ok (.if_icmp .gt 13, 3) := by decide +kernel
theorem dX9_foretell_25 : decode cX9_foretell 25 = .ok (.iload_n 3, 1) := by decide +kernel
theorem dX9_foretell_26 : decode cX9_foretell 26 = .ok (.ifCond .lt 9, 3) := by decide +kernel
theorem dX9_foretell_29 : decode cX9_foretell 29 = .ok (.iload_n 3, 1) := by decide +kernel
theorem dX9_foretell_30 : decode cX9_foretell 30 = .ok (.bipush 12, 2) := by decide +kernel
theorem dX9_foretell_32 : decode cX9_foretell 32 = .ok (.if_icmp .le 5, 3) := by decide +kernel
theorem dX9_foretell_35 : decode cX9_foretell 35 = .ok (.iconst 0, 1) := by decide +kernel
theorem dX9_foretell_36 : decode cX9_foretell 36 = .ok (.ireturn, 1) := by decide +kernel
theorem dX9_foretell_37 : decode cX9_foretell 37 = .ok (.aload_n 0, 1) := by decide +kernel
theorem dX9_foretell_38 : decode cX9_foretell 38 = .ok (.getfield 122, 3) := by decide +kernel
theorem dX9_foretell_41 : decode cX9_foretell 41 = .ok (.iload_n 1, 1) := by decide +kernel
theorem dX9_foretell_42 : decode cX9_foretell 42 = .ok (.iload_n 2, 1) := by decide +kernel
theorem dX9_foretell_43 : decode cX9_foretell 43 = .ok (.iastore, 1) := by decide +kernel
theorem dX9_foretell_44 : decode cX9_foretell 44 = .ok (.aload_n 0, 1) := by decide +kernel
theorem dX9_foretell_45 : decode cX9_foretell 45 = .ok (.getfield 125, 3) := by decide +kernel
theorem dX9_foretell_48 : decode cX9_foretell 48 = .ok (.iload_n 1, 1) := by decide +kernel
theorem dX9_foretell_49 : decode cX9_foretell 49 = .ok (.iload_n 3, 1) := by decide +kernel
theorem dX9_foretell_50 : decode cX9_foretell 50 = .ok (.iastore, 1) := by decide +kernel
theorem dX9_foretell_51 : decode cX9_foretell 51 = .ok (.iconst 1, 1) := by decide +kernel
theorem dX9_foretell_52 : decode cX9_foretell 52 = .ok (.ireturn, 1) := by decide +kernel
theorem dX9_gives_0 : decode cX9_gives 0 = .ok (.aload_n 0, 1) := by decide +kernel
theorem dX9_gives_1 : decode cX9_gives 1 = .ok (.getfield 98, 3) := by decide +kernel
theorem dX9_gives_4 : decode cX9_gives 4 = .ok (.iload_n 1, 1) := by decide +kernel
theorem dX9_gives_5 : decode cX9_gives 5 = .ok (.iconst 0, 1) := by decide +kernel
theorem dX9_gives_6 : decode cX9_gives 6 = .ok (.iastore, 1) := by decide +kernel
theorem dX9_gives_7 : decode cX9_gives 7 = .ok (.iconst 0, 1) := by decide +kernel
theorem dX9_gives_8 : decode cX9_gives 8 = .ok (.istore_n 2, 1) := by decide +kernel
theorem dX9_gives_9 : decode cX9_gives 9 = .ok (.iload_n 2, 1) := by decide +kernel
theorem dX9_gives_10 : decode cX9_gives 10 = .ok (.aload_n 0, 1) := by decide +kernel
theorem dX9_gives_11 : decode cX9_gives 11 = .ok (.getfield 138, 3) := by decide +kernel
theorem dX9_gives_14 : decode cX9_gives 14 = .ok (.if_icmp .ge 35, 3) := by decide +kernel
theorem dX9_gives_17 : decode cX9_gives 17 = .ok (.aload_n 0, 1) := by decide +kernel
theorem dX9_gives_18 : decode cX9_gives 18 = .ok (.getfield 95, 3) := by decide +kernel
theorem dX9_gives_21 : decode cX9_gives 21 = .ok (.iload_n 2, 1) := by decide +kernel
theorem dX9_gives_22 : decode cX9_gives 22 = .ok (.aload_n 0, 1) := by decide +kernel
theorem dX9_gives_23 : decode cX9_gives 23 = .ok (.getfield 95, 3) := by decide +kernel
theorem dX9_gives_26 : decode cX9_gives 26 = .ok (.iload_n 2, 1) := by decide +kernel
theorem dX9_gives_27 : decode cX9_gives 27 = .ok (.iaload, 1) := by decide +kernel
theorem dX9_gives_28 : decode cX9_gives 28 = .ok (.iload_n 1, 1) := by decide +kernel
theorem dX9_gives_29 : decode cX9_gives 29 = .ok (.if_icmp .ne 7, 3) := by decide +kernel
theorem dX9_gives_32 : decode cX9_gives 32 = .ok (.iconst (-1), 1) := by decide +kernel
theorem dX9_gives_33 : decode cX9_gives 33 = .ok (.goto 9, 3) := by decide +kernel
theorem dX9_gives_36 : decode cX9_gives 36 = .ok (.aload_n 0, 1) := by decide +kernel
theorem dX9_gives_37 : decode cX9_gives 37 = .ok (.getfield 95, 3) := by decide +kernel
theorem dX9_gives_40 : decode cX9_gives 40 = .ok (.iload_n 2, 1) := by decide +kernel
theorem dX9_gives_41 : decode cX9_gives 41 = .ok (.iaload, 1) := by decide +kernel
theorem dX9_gives_42 : decode cX9_gives 42 = .ok (.iastore, 1) := by decide +kernel
theorem dX9_gives_43 : decode cX9_gives 43 = .ok (.iinc 2 1, 3) := by decide +kernel
theorem dX9_gives_46 : decode cX9_gives 46 = .ok (.goto (-37), 3) := by decide +kernel
theorem dX9_gives_49 : decode cX9_gives 49 = .ok (.return_, 1) := by decide +kernel
theorem dX9_goes_0 : decode cX9_goes 0 = .ok (.aload_n 0, 1) := by decide +kernel
theorem dX9_goes_1 : decode cX9_goes 1 = .ok (.dup, 1) := by decide +kernel
theorem dX9_goes_2 : decode cX9_goes 2 = .ok (.getfield 242, 3) := by decide +kernel
theorem dX9_goes_5 : decode cX9_goes 5 = .ok (.iconst 1, 1) := by decide +kernel
theorem dX9_goes_6 : decode cX9_goes 6 = .ok (.iadd, 1) := by decide +kernel
theorem dX9_goes_7 : decode cX9_goes 7 = .ok (.putfield 242, 3) := by decide +kernel
theorem dX9_goes_10 : decode cX9_goes 10 = .ok (.aload_n 0, 1) := by decide +kernel
theorem dX9_goes_11 : decode cX9_goes 11 = .ok (.aload_n 0, 1) := by decide +kernel
theorem dX9_goes_12 : decode cX9_goes 12 = .ok (.invokevirtual 281, 3) := by decide +kernel
theorem dX9_goes_15 : decode cX9_goes 15 = .ok (.putfield 332, 3) := by decide +kernel
theorem dX9_goes_18 : decode cX9_goes 18 = .ok (.aload_n 0, 1) := by decide +kernel
theorem dX9_goes_19 : decode cX9_goes 19 = .ok (.aload_n 0, 1) := by decide +kernel
theorem dX9_goes_20 : decode cX9_goes 20 = .ok (.invokevirtual 278, 3) := by decide +kernel
theorem dX9_goes_23 : decode cX9_goes 23 = .ok (.putfield 335, 3) := by decide +kernel
theorem dX9_goes_26 : decode cX9_goes 26 = .ok (.aload_n 0, 1) := by decide +kernel
theorem dX9_goes_27 : decode cX9_goes 27 = .ok (.invokevirtual 338, 3) := by decide +kernel
theorem dX9_goes_30 : decode cX9_goes 30 = .ok (.aload_n 0, 1) := by decide +kernel
theorem dX9_goes_31 : decode cX9_goes 31 = .ok (.invokevirtual 341, 3) := by decide +kernel
theorem dX9_goes_34 : decode cX9_goes 34 = .ok (.aload_n 0, 1) := by decide +kernel
theorem dX9_goes_35 : decode cX9_goes 35 = .ok (.getfield 284, 3) := by decide +kernel
theorem dX9_goes_38 : decode cX9_goes 38 = .ok (.aload_n 0, 1) := by decide +kernel
theorem dX9_goes_39 : decode cX9_goes 39 = .ok (.getfield 308, 3) := by decide +kernel
theorem dX9_goes_42 : decode cX9_goes 42 = .ok (.if_icmp .eq 45, 3) := by decide +kernel
theorem dX9_goes_45 : decode cX9_goes 45 = .ok (.aload_n 0, 1) := by decide +kernel
theorem dX9_goes_46 : decode cX9_goes 46 = .ok (.aload_n 0, 1) := by decide +kernel
theorem dX9_goes_47 : decode cX9_goes 47 = .ok (.getfield 308, 3) := by decide +kernel
theorem dX9_goes_50 : decode cX9_goes 50 = .ok (.aload_n 0, 1) := by decide +kernel
theorem dX9_goes_51 : decode cX9_goes 51 = .ok (.getfield 284, 3) := by decide +kernel
theorem dX9_goes_54 : decode cX9_goes 54 = .ok (.isub, 1) := by decide +kernel
theorem dX9_goes_55 : decode cX9_goes 55 = .ok (.bipush 31, 2) := by decide +kernel
theorem dX9_goes_57 : decode cX9_goes 57 = .ok (.iand, 1) := by decide +kernel
theorem dX9_goes_58 : decode cX9_goes 58 = .ok (.bipush 16, 2) := by decide +kernel
theorem dX9_goes_60 : decode cX9_goes 60 = .ok (.if_icmp .gt 15, 3) := by decide +kernel
theorem dX9_goes_63 : decode cX9_goes 63 = .ok (.aload_n 0, 1) := by decide +kernel
theorem dX9_goes_64 : decode cX9_goes 64 = .ok (.getfield 284, 3) := by decide +kernel
theorem dX9_goes_67 : decode cX9_goes 67 = .ok (.iconst 1, 1) := by decide +kernel
theorem dX9_goes_68 : decode cX9_goes 68 = .ok (.iadd, 1) := by decide +kernel
theorem dX9_goes_69 : decode cX9_goes 69 = .ok (.bipush 31, 2) := by decide +kernel
theorem dX9_goes_71 : decode cX9_goes 71 = .ok (.iand, 1) := by decide +kernel
theorem dX9_goes_72 : decode cX9_goes 72 = .ok (.goto 12, 3) := by decide +kernel
theorem dX9_goes_75 : decode cX9_goes 75 = .ok (.aload_n 0, 1) := by decide +kernel
theorem dX9_goes_76 : decode cX9_goes 76 = .ok (.getfield 284, 3) := by decide +kernel
theorem dX9_goes_79 : decode cX9_goes 79 = .ok (.iconst 1, 1) := by decide +kernel
theorem dX9_goes_80 : decode cX9_goes 80 = .ok (.isub, 1) := by decide +kernel
theorem dX9_goes_81 : decode cX9_goes 81 = .ok (.bipush 31, 2) := by decide +kernel
theorem dX9_goes_83 : decode cX9_goes 83 = .ok (.iand, 1) := by decide +kernel
theorem dX9_goes_84 : decode cX9_goes 84 = .ok (.putfield 284, 3) := by decide +kernel
theorem dX9_goes_87 : decode cX9_goes 87 = .ok (.aload_n 0, 1) := by decide +kernel
theorem dX9_goes_88 : decode cX9_goes 88 = .ok (.invokevirtual 344, 3) := by decide +kernel
theorem dX9_goes_91 : decode cX9_goes 91 = .ok (.aload_n 0, 1) := by decide +kernel
theorem dX9_goes_92 : decode cX9_goes 92 = .ok (.dup, 1) := by decide +kernel
theorem dX9_goes_93 : decode cX9_goes 93 = .ok (.getfield 347, 3) := by decide +kernel
theorem dX9_goes_96 : decode cX9_goes 96 = .ok (.aload_n 0, 1) := by decide +kernel
theorem dX9_goes_97 : decode cX9_goes 97 = .ok (.getfield 290, 3) := by decide +kernel
theorem dX9_goes_100 : decode cX9_goes 100 = .ok (.aload_n 0, 1) := by decide +kernel
theorem dX9_goes_101 : decode cX9_goes 101 = .ok (.getfield 284, 3) := by decide +kernel
theorem dX9_goes_104 : decode cX9_goes 104 = .ok (.invokestatic 350, 3) := by decide +kernel
theorem dX9_goes_107 : decode cX9_goes 107 = .ok (.imul, 1) := by decide +kernel
theorem dX9_goes_108 : decode cX9_goes 108 = .ok (.iadd, 1) := by decide +kernel
theorem dX9_goes_109 : decode cX9_goes 109 = .ok (.putfield 347, 3) := by decide +kernel
theorem dX9_goes_112 : decode cX9_goes 112 = .ok (.aload_n 0, 1) := by decide +kernel
theorem dX9_goes_113 : decode cX9_goes 113 = .ok (.dup, 1) := by decide +kernel
theorem dX9_goes_114 : decode cX9_goes 114 = .ok (.getfield 353, 3) := by decide +kernel
theorem dX9_goes_117 : decode cX9_goes 117 = .ok (.aload_n 0, 1) := by decide +kernel
theorem dX9_goes_118 : decode cX9_goes 118 = .ok (.getfield 290, 3) := by decide +kernel
theorem dX9_goes_121 : decode cX9_goes 121 = .ok (.aload_n 0, 1) := by decide +kernel
theorem dX9_goes_122 : decode cX9_goes 122 = .ok (.getfield 284, 3) := by decide +kernel
theorem dX9_goes_125 : decode cX9_goes 125 = .ok (.invokestatic 317, 3) := by decide +kernel
theorem dX9_goes_128 : decode cX9_goes 128 = .ok (.imul, 1) := by decide +kernel
theorem dX9_goes_129 : decode cX9_goes 129 = .ok (.iadd, 1) := by decide +kernel
theorem dX9_goes_130 : decode cX9_goes 130 = .ok (.putfield 353, 3) := by decide +kernel
theorem dX9_goes_133 : decode cX9_goes 133 = .ok (.return_, 1) := by decide +kernel
theorem dX9_hand_0 : decode cX9_hand 0 = .ok (.aload_n 0, 1) := by decide +kernel
theorem dX9_hand_1 : decode cX9_hand 1 = .ok (.iload_n 1, 1) := by decide +kernel
theorem dX9_hand_2 : decode cX9_hand 2 = .ok (.ifCond .lt 24, 3) := by decide +kernel
theorem dX9_hand_5 : decode cX9_hand 5 = .ok (.iload_n 1, 1) := by decide +kernel
theorem dX9_hand_6 : decode cX9_hand 6 = .ok (.aload_n 0, 1) := by decide +kernel
theorem dX9_hand_7 : decode cX9_hand 7 = .ok (.getfield 138, 3) := by decide +kernel
theorem dX9_hand_10 : decode cX9_hand 10 = .ok (.if_icmp .ge 16, 3) := by decide +kernel
theorem dX9_hand_13 : decode cX9_hand 13 = .ok (.iload_n 2, 1) := by decide +kernel
theorem dX9_hand_14 : decode cX9_hand 14 = .ok (.ifCond .lt 12, 3) := by decide +kernel
theorem dX9_hand_17 : decode cX9_hand 17 = .ok (.iload_n 2, 1) := by decide +kernel
theorem dX9_hand_18 : decode cX9_hand 18 = .ok (.iconst 2, 1) := by decide +kernel
theorem dX9_hand_19 : decode cX9_hand 19 = .ok (.if_icmp .gt 7, 3) := by decide +kernel
theorem dX9_hand_22 : decode cX9_hand 22 = .ok (.iconst 0, 1) := by decide +kernel
theorem dX9_hand_23 : decode cX9_hand 23 = .ok (.goto 4, 3) := by decide +kernel
theorem dX9_hand_26 : decode cX9_hand 26 = .ok (.iconst 1, 1) := by decide +kernel
theorem dX9_hand_27 : decode cX9_hand 27 = .ok (.putfield 1, 3) := by decide +kernel
theorem dX9_hand_30 : decode cX9_hand 30 = .ok (.aload_n 0, 1) := by decide +kernel
theorem dX9_hand_31 : decode cX9_hand 31 = .ok (.getfield 1, 3) := by decide +kernel
theorem dX9_hand_34 : decode cX9_hand 34 = .ok (.ifCond .le 5, 3) := by decide +kernel
theorem dX9_hand_37 : decode cX9_hand 37 = .ok (.iconst 0, 1) := by decide +kernel
theorem dX9_hand_38 : decode cX9_hand 38 = .ok (.ireturn, 1) := by decide +kernel
theorem dX9_hand_39 : decode cX9_hand 39 = .ok (.iload_n 2, 1) := by decide +kernel
theorem dX9_hand_40 : decode cX9_hand 40 = .ok (.ifCond .ne 20, 3) := by decide +kernel
theorem dX9_hand_43 : decode cX9_hand 43 = .ok (.aload_n 0, 1) := by decide +kernel
theorem dX9_hand_44 : decode cX9_hand 44 = .ok (.getfield 95, 3) := by decide +kernel
theorem dX9_hand_47 : decode cX9_hand 47 = .ok (.iload_n 1, 1) := by decide +kernel
theorem dX9_hand_48 : decode cX9_hand 48 = .ok (.iaload, 1) := by decide +kernel
theorem dX9_hand_49 : decode cX9_hand 49 = .ok (.ifCond .ge 7, 3) := by decide +kernel
theorem dX9_hand_52 : decode cX9_hand 52 = .ok (.iconst 0, 1) := by decide +kernel
theorem dX9_hand_53 : decode cX9_hand 53 = .ok (.goto 52, 3) := by decide +kernel
theorem dX9_hand_56 : decode cX9_hand 56 = .ok (.iconst 1, 1) := by decide +kernel
theorem dX9_hand_57 : decode cX9_hand 57 = .ok (.goto 48, 3) := by decide +kernel
theorem dX9_hand_60 : decode cX9_hand 60 = .ok (.iload_n 2, 1) := by decide +kernel
theorem dX9_hand_61 : decode cX9_hand 61 = .ok (.iconst 1, 1) := by decide +kernel
theorem dX9_hand_62 : decode cX9_hand 62 = .ok (.if_icmp .ne 30, 3) := by decide +kernel
theorem dX9_hand_65 : decode cX9_hand 65 = .ok (.aload_n 0, 1) := by decide +kernel
theorem dX9_hand_66 : decode cX9_hand 66 = .ok (.getfield 95, 3) := by decide +kernel
theorem dX9_hand_69 : decode cX9_hand 69 = .ok (.iload_n 1, 1) := by decide +kernel
theorem dX9_hand_70 : decode cX9_hand 70 = .ok (.iaload, 1) := by decide +kernel
theorem dX9_hand_71 : decode cX9_hand 71 = .ok (.ifCond .ge 7, 3) := by decide +kernel
theorem dX9_hand_74 : decode cX9_hand 74 = .ok (.iconst 0, 1) := by decide +kernel
theorem dX9_hand_75 : decode cX9_hand 75 = .ok (.goto 30, 3) := by decide +kernel
theorem dX9_hand_78 : decode cX9_hand 78 = .ok (.aload_n 0, 1) := by decide +kernel
theorem dX9_hand_79 : decode cX9_hand 79 = .ok (.getfield 107, 3) := by decide +kernel
theorem dX9_hand_82 : decode cX9_hand 82 = .ok (.aload_n 0, 1) := by decide +kernel
theorem dX9_hand_83 : decode cX9_hand 83 = .ok (.getfield 95, 3) := by decide +kernel
theorem dX9_hand_86 : decode cX9_hand 86 = .ok (.iload_n 1, 1) := by decide +kernel
theorem dX9_hand_87 : decode cX9_hand 87 = .ok (.iaload, 1) := by decide +kernel
theorem dX9_hand_88 : decode cX9_hand 88 = .ok (.iaload, 1) := by decide +kernel
theorem dX9_hand_89 : decode cX9_hand 89 = .ok (.goto 16, 3) := by decide +kernel
theorem dX9_hand_92 : decode cX9_hand 92 = .ok (.aload_n 0, 1) := by decide +kernel
theorem dX9_hand_93 : decode cX9_hand 93 = .ok (.iload_n 1, 1) := by decide +kernel
theorem dX9_hand_94 : decode cX9_hand 94 = .ok (.invokevirtual 262, 3) := by decide +kernel
theorem dX9_hand_97 : decode cX9_hand 97 = .ok (.ifCond .eq 7, 3) := by decide +kernel
theorem dX9_hand_100 : decode cX9_hand 100 = .ok (.iconst 1, 1) := by decide +kernel
theorem dX9_hand_101 : decode cX9_hand 101 = .ok (.goto 4, 3) := by decide +kernel
theorem dX9_hand_104 : decode cX9_hand 104 = .ok (.iconst 0, 1) := by decide +kernel
theorem dX9_hand_105 : decode cX9_hand 105 = .ok (.ireturn, 1) := by decide +kernel
theorem dX9_handsOf_0 : decode cX9_handsOf 0 = .ok (.iload_n 0, 1) := by decide +kernel
theorem dX9_handsOf_1 : decode cX9_handsOf 1 = .ok (.ifCond .ne 7, 3) := by decide +kernel
theorem dX9_handsOf_4 : decode cX9_handsOf 4 = .ok (.iconst 3, 1) := by decide +kernel
theorem dX9_handsOf_5 : decode cX9_handsOf 5 = .ok (.goto 22, 3) := by decide +kernel
theorem dX9_handsOf_8 : decode cX9_handsOf 8 = .ok (.iload_n 0, 1) := by decide +kernel
theorem dX9_handsOf_9 : decode cX9_handsOf 9 = .ok (.iconst 1, 1) := by decide +kernel
theorem dX9_handsOf_10 : decode cX9_handsOf 10 = .ok (.if_icmp .ne 7, 3) := by decide +kernel
theorem dX9_handsOf_13 : decode cX9_handsOf 13 = .ok (.iconst 4, 1) := by decide +kernel
theorem dX9_handsOf_14 : decode cX9_handsOf 14 = .ok (.goto 13, 3) := by decide +kernel
theorem dX9_handsOf_17 : decode cX9_handsOf 17 = .ok (.iload_n 0, 1) := by decide +kernel
theorem dX9_handsOf_18 : decode cX9_handsOf 18 = .ok (.iconst 2, 1) := by decide +kernel
theorem dX9_handsOf_19 : decode cX9_handsOf 19 = .ok (.if_icmp .ne 7, 3) := by decide +kernel
theorem dX9_handsOf_22 : decode cX9_handsOf 22 = .ok (.iconst 5, 1) := by decide +kernel
theorem dX9_handsOf_23 : decode cX9_handsOf 23 = .ok (.goto 4, 3) := by decide +kernel
theorem dX9_handsOf_26 : decode cX9_handsOf 26 = .ok (.iconst 2, 1) := by decide +kernel
theorem dX9_handsOf_27 : decode cX9_handsOf 27 = .ok (.ireturn, 1) := by decide +kernel
theorem dX9_hasWord_0 : decode cX9_hasWord 0 = .ok (.aload_n 0, 1) := by decide +kernel
theorem dX9_hasWord_1 : decode cX9_hasWord 1 = .ok (.iload_n 1, 1) := by decide +kernel
theorem dX9_hasWord_2 : decode cX9_hasWord 2 = .ok (.invokevirtual 177, 3) := by decide +kernel
theorem dX9_hasWord_5 : decode cX9_hasWord 5 = .ok (.istore_n 2, 1) := by decide +kernel
theorem dX9_hasWord_6 : decode cX9_hasWord 6 = .ok (.aload_n 0, 1) := by decide +kernel
theorem dX9_hasWord_7 : decode cX9_hasWord 7 = .ok (.dup, 1) := by decide +kernel
theorem dX9_hasWord_8 : decode cX9_hasWord 8 = .ok (.getfield 164, 3) := by decide +kernel
theorem dX9_hasWord_11 : decode cX9_hasWord 11 = .ok (.iload_n 2, 1) := by decide +kernel
theorem dX9_hasWord_12 : decode cX9_hasWord 12 = .ok (.ifCond .eq 7, 3) := by decide +kernel
theorem dX9_hasWord_15 : decode cX9_hasWord 15 = .ok (.iconst 1, 1) := by decide +kernel
theorem dX9_hasWord_16 : decode cX9_hasWord 16 = .ok (.goto 4, 3) := by decide +kernel
theorem dX9_hasWord_19 : decode cX9_hasWord 19 = .ok (.iconst 0, 1) := by decide +kernel
theorem dX9_hasWord_20 : decode cX9_hasWord 20 = .ok (.iadd, 1) := by decide +kernel
theorem dX9_hasWord_21 : decode cX9_hasWord 21 = .ok (.putfield 164, 3) := by decide +kernel
theorem dX9_hasWord_24 : decode cX9_hasWord 24 = .ok (.iload_n 2, 1) := by decide +kernel
theorem dX9_hasWord_25 : decode cX9_hasWord 25 = .ok (.ireturn, 1) := by decide +kernel
theorem dX9_here_0 : decode cX9_here 0 = .ok (.sipush 2200, 3) := by decide +kernel
theorem dX9_here_3 : decode cX9_here 3 = .ok (.aload_n 0, 1) := by decide +kernel
theorem dX9_here_4 : decode cX9_here 4 = .ok (.getfield 183, 3) := by decide +kernel
theorem dX9_here_7 : decode cX9_here 7 = .ok (.imul, 1) := by decide +kernel
theorem dX9_here_8 : decode cX9_here 8 = .ok (.aload_n 0, 1) := by decide +kernel
theorem dX9_here_9 : decode cX9_here 9 = .ok (.getfield 186, 3) := by decide +kernel
theorem dX9_here_12 : decode cX9_here 12 = .ok (.iadd, 1) := by decide +kernel
theorem dX9_here_13 : decode cX9_here 13 = .ok (.ireturn, 1) := by decide +kernel
theorem dX9_init_0 : decode cX9_init 0 = .ok (.aload_n 0, 1) := by decide +kernel
theorem dX9_init_1 : decode cX9_init 1 = .ok (.invokespecial 18, 3) := by decide +kernel
theorem dX9_init_4 : decode cX9_init 4 = .ok (.aload_n 0, 1) := by decide +kernel
theorem dX9_init_5 : decode cX9_init 5 = .ok (.sipush 1000, 3) := by decide +kernel
theorem dX9_init_8 : decode cX9_init 8 = .ok (.newarray .int, 2) := by decide +kernel
theorem dX9_init_10 : decode cX9_init 10 = .ok (.putfield 14, 3) := by decide +kernel
theorem dX9_init_13 : decode cX9_init 13 = .ok (.aload_n 0, 1) := by decide +kernel
theorem dX9_init_14 : decode cX9_init 14 = .ok (.sipush 1002, 3) := by decide +kernel
theorem dX9_init_17 : decode cX9_init 17 = .ok (.newarray .int, 2) := by decide +kernel
theorem dX9_init_19 : decode cX9_init 19 = .ok (.putfield 24, 3) := by decide +kernel
theorem dX9_init_22 : decode cX9_init 22 = .ok (.aload_n 0, 1) := by decide +kernel
theorem dX9_init_23 : decode cX9_init 23 = .ok (.sipush 1002, 3) := by decide +kernel
theorem dX9_init_26 : decode cX9_init 26 = .ok (.newarray .int, 2) := by decide +kernel
theorem dX9_init_28 : decode cX9_init 28 = .ok (.putfield 27, 3) := by decide +kernel
theorem dX9_init_31 : decode cX9_init 31 = .ok (.aload_n 0, 1) := by decide +kernel
theorem dX9_init_32 : decode cX9_init 32 = .ok (.sipush 1002, 3) := by decide +kernel
theorem dX9_init_35 : decode cX9_init 35 = .ok (.newarray .long, 2) := by decide +kernel
theorem dX9_init_37 : decode cX9_init 37 = .ok (.putfield 30, 3) := by decide +kernel
theorem dX9_init_40 : decode cX9_init 40 = .ok (.aload_n 0, 1) := by decide +kernel
theorem dX9_init_41 : decode cX9_init 41 = .ok (.bipush 17, 2) := by decide +kernel
theorem dX9_init_43 : decode cX9_init 43 = .ok (.newarray .long, 2) := by decide +kernel
theorem dX9_init_45 : decode cX9_init 45 = .ok (.dup, 1) := by decide +kernel
theorem dX9_init_46 : decode cX9_init 46 = .ok (.iconst 0, 1) := by decide +kernel
theorem dX9_init_47 : decode cX9_init 47 = .ok (.ldc2_w 34, 3) := by decide +kernel
theorem dX9_init_50 : decode cX9_init 50 = .ok (.lastore, 1) := by decide +kernel
theorem dX9_init_51 : decode cX9_init 51 = .ok (.dup, 1) := by decide +kernel
theorem dX9_init_52 : decode cX9_init 52 = .ok (.iconst 1, 1) := by decide +kernel
theorem dX9_init_53 : decode cX9_init 53 = .ok (.ldc2_w 36, 3) := by decide +kernel
theorem dX9_init_56 : decode cX9_init 56 = .ok (.lastore, 1) := by decide +kernel
theorem dX9_init_57 : decode cX9_init 57 = .ok (.dup, 1) := by decide +kernel
theorem dX9_init_58 : decode cX9_init 58 = .ok (.iconst 2, 1) := by decide +kernel
theorem dX9_init_59 : decode cX9_init 59 = .ok (.ldc2_w 38, 3) := by decide +kernel
theorem dX9_init_62 : decode cX9_init 62 = .ok (.lastore, 1) := by decide +kernel
theorem dX9_init_63 : decode cX9_init 63 = .ok (.dup, 1) := by decide +kernel
theorem dX9_init_64 : decode cX9_init 64 = .ok (.iconst 3, 1) := by decide +kernel
theorem dX9_init_65 : decode cX9_init 65 = .ok (.ldc2_w 40, 3) := by decide +kernel
theorem dX9_init_68 : decode cX9_init 68 = .ok (.lastore, 1) := by decide +kernel
theorem dX9_init_69 : decode cX9_init 69 = .ok (.dup, 1) := by decide +kernel
theorem dX9_init_70 : decode cX9_init 70 = .ok (.iconst 4, 1) := by decide +kernel
theorem dX9_init_71 : decode cX9_init 71 = .ok (.ldc2_w 42, 3) := by decide +kernel
theorem dX9_init_74 : decode cX9_init 74 = .ok (.lastore, 1) := by decide +kernel
theorem dX9_init_75 : decode cX9_init 75 = .ok (.dup, 1) := by decide +kernel
theorem dX9_init_76 : decode cX9_init 76 = .ok (.iconst 5, 1) := by decide +kernel
theorem dX9_init_77 : decode cX9_init 77 = .ok (.ldc2_w 44, 3) := by decide +kernel
theorem dX9_init_80 : decode cX9_init 80 = .ok (.lastore, 1) := by decide +kernel
theorem dX9_init_81 : decode cX9_init 81 = .ok (.dup, 1) := by decide +kernel
theorem dX9_init_82 : decode cX9_init 82 = .ok (.bipush 6, 2) := by decide +kernel
theorem dX9_init_84 : decode cX9_init 84 = .ok (.ldc2_w 46, 3) := by decide +kernel
theorem dX9_init_87 : decode cX9_init 87 = .ok (.lastore, 1) := by decide +kernel
theorem dX9_init_88 : decode cX9_init 88 = .ok (.dup, 1) := by decide +kernel
theorem dX9_init_89 : decode cX9_init 89 = .ok (.bipush 7, 2) := by decide +kernel
theorem dX9_init_91 : decode cX9_init 91 = .ok (.ldc2_w 48, 3) := by decide +kernel
theorem dX9_init_94 : decode cX9_init 94 = .ok (.lastore, 1) := by decide +kernel
theorem dX9_init_95 : decode cX9_init 95 = .ok (.dup, 1) := by decide +kernel
theorem dX9_init_96 : decode cX9_init 96 = .ok (.bipush 8, 2) := by decide +kernel
theorem dX9_init_98 : decode cX9_init 98 = .ok (.ldc2_w 50, 3) := by decide +kernel
theorem dX9_init_101 : decode cX9_init 101 = .ok (.lastore, 1) := by decide +kernel
theorem dX9_init_102 : decode cX9_init 102 = .ok (.dup, 1) := by decide +kernel
theorem dX9_init_103 : decode cX9_init 103 = .ok (.bipush 9, 2) := by decide +kernel
theorem dX9_init_105 : decode cX9_init 105 = .ok (.ldc2_w 52, 3) := by decide +kernel
theorem dX9_init_108 : decode cX9_init 108 = .ok (.lastore, 1) := by decide +kernel
theorem dX9_init_109 : decode cX9_init 109 = .ok (.dup, 1) := by decide +kernel
theorem dX9_init_110 : decode cX9_init 110 = .ok (.bipush 10, 2) := by decide +kernel
theorem dX9_init_112 : decode cX9_init 112 = .ok (.ldc2_w 54, 3) := by decide +kernel
theorem dX9_init_115 : decode cX9_init 115 = .ok (.lastore, 1) := by decide +kernel
theorem dX9_init_116 : decode cX9_init 116 = .ok (.dup, 1) := by decide +kernel
theorem dX9_init_117 : decode cX9_init 117 = .ok (.bipush 11, 2) := by decide +kernel
theorem dX9_init_119 : decode cX9_init 119 = .ok (.ldc2_w 56, 3) := by decide +kernel
theorem dX9_init_122 : decode cX9_init 122 = .ok (.lastore, 1) := by decide +kernel
theorem dX9_init_123 : decode cX9_init 123 = .ok (.dup, 1) := by decide +kernel
theorem dX9_init_124 : decode cX9_init 124 = .ok (.bipush 12, 2) := by decide +kernel
theorem dX9_init_126 : decode cX9_init 126 = .ok (.ldc2_w 58, 3) := by decide +kernel
theorem dX9_init_129 : decode cX9_init 129 = .ok (.lastore, 1) := by decide +kernel
theorem dX9_init_130 : decode cX9_init 130 = .ok (.dup, 1) := by decide +kernel
theorem dX9_init_131 : decode cX9_init 131 = .ok (.bipush 13, 2) := by decide +kernel
theorem dX9_init_133 : decode cX9_init 133 = .ok (.ldc2_w 60, 3) := by decide +kernel
theorem dX9_init_136 : decode cX9_init 136 = .ok (.lastore, 1) := by decide +kernel
theorem dX9_init_137 : decode cX9_init 137 = .ok (.dup, 1) := by decide +kernel
theorem dX9_init_138 : decode cX9_init 138 = .ok (.bipush 14, 2) := by decide +kernel
theorem dX9_init_140 : decode cX9_init 140 = .ok (.ldc2_w 62, 3) := by decide +kernel
theorem dX9_init_143 : decode cX9_init 143 = .ok (.lastore, 1) := by decide +kernel
theorem dX9_init_144 : decode cX9_init 144 = .ok (.dup, 1) := by decide +kernel
theorem dX9_init_145 : decode cX9_init 145 = .ok (.bipush 15, 2) := by decide +kernel
theorem dX9_init_147 : decode cX9_init 147 = .ok (.ldc2_w 64, 3) := by decide +kernel
theorem dX9_init_150 : decode cX9_init 150 = .ok (.lastore, 1) := by decide +kernel
theorem dX9_init_151 : decode cX9_init 151 = .ok (.dup, 1) := by decide +kernel
theorem dX9_init_152 : decode cX9_init 152 = .ok (.bipush 16, 2) := by decide +kernel
theorem dX9_init_154 : decode cX9_init 154 = .ok (.ldc2_w 66, 3) := by decide +kernel
theorem dX9_init_157 : decode cX9_init 157 = .ok (.lastore, 1) := by decide +kernel
theorem dX9_init_158 : decode cX9_init 158 = .ok (.putfield 68, 3) := by decide +kernel
theorem dX9_init_161 : decode cX9_init 161 = .ok (.aload_n 0, 1) := by decide +kernel
theorem dX9_init_162 : decode cX9_init 162 = .ok (.sipush 4400, 3) := by decide +kernel
theorem dX9_init_165 : decode cX9_init 165 = .ok (.newarray .int, 2) := by decide +kernel
theorem dX9_init_167 : decode cX9_init 167 = .ok (.putfield 71, 3) := by decide +kernel
theorem dX9_init_170 : decode cX9_init 170 = .ok (.aload_n 0, 1) := by decide +kernel
theorem dX9_init_171 : decode cX9_init 171 = .ok (.sipush 4400, 3) := by decide +kernel
theorem dX9_init_174 : decode cX9_init 174 = .ok (.newarray .int, 2) := by decide +kernel
theorem dX9_init_176 : decode cX9_init 176 = .ok (.putfield 74, 3) := by decide +kernel
theorem dX9_init_179 : decode cX9_init 179 = .ok (.aload_n 0, 1) := by decide +kernel
theorem dX9_init_180 : decode cX9_init 180 = .ok (.sipush 4400, 3) := by decide +kernel
theorem dX9_init_183 : decode cX9_init 183 = .ok (.newarray .int, 2) := by decide +kernel
theorem dX9_init_185 : decode cX9_init 185 = .ok (.putfield 77, 3) := by decide +kernel
theorem dX9_init_188 : decode cX9_init 188 = .ok (.aload_n 0, 1) := by decide +kernel
theorem dX9_init_189 : decode cX9_init 189 = .ok (.iconst 2, 1) := by decide +kernel
theorem dX9_init_190 : decode cX9_init 190 = .ok (.newarray .int, 2) := by decide +kernel
theorem dX9_init_192 : decode cX9_init 192 = .ok (.putfield 80, 3) := by decide +kernel
theorem dX9_init_195 : decode cX9_init 195 = .ok (.aload_n 0, 1) := by decide +kernel
theorem dX9_init_196 : decode cX9_init 196 = .ok (.bipush 9, 2) := by decide +kernel
theorem dX9_init_198 : decode cX9_init 198 = .ok (.newarray .int, 2) := by decide +kernel
theorem dX9_init_200 : decode cX9_init 200 = .ok (.putfield 83, 3) := by decide +kernel
theorem dX9_init_203 : decode cX9_init 203 = .ok (.aload_n 0, 1) := by decide +kernel
theorem dX9_init_204 : decode cX9_init 204 = .ok (.bipush 18, 2) := by decide +kernel
theorem dX9_init_206 : decode cX9_init 206 = .ok (.newarray .int, 2) := by decide +kernel
theorem dX9_init_208 : decode cX9_init 208 = .ok (.putfield 86, 3) := by decide +kernel
theorem dX9_init_211 : decode cX9_init 211 = .ok (.aload_n 0, 1) := by decide +kernel
theorem dX9_init_212 : decode cX9_init 212 = .ok (.bipush 18, 2) := by decide +kernel
theorem dX9_init_214 : decode cX9_init 214 = .ok (.newarray .int, 2) := by decide +kernel
theorem dX9_init_216 : decode cX9_init 216 = .ok (.putfield 89, 3) := by decide +kernel
theorem dX9_init_219 : decode cX9_init 219 = .ok (.aload_n 0, 1) := by decide +kernel
theorem dX9_init_220 : decode cX9_init 220 = .ok (.iconst 3, 1) := by decide +kernel
theorem dX9_init_221 : decode cX9_init 221 = .ok (.newarray .int, 2) := by decide +kernel
theorem dX9_init_223 : decode cX9_init 223 = .ok (.putfield 92, 3) := by decide +kernel
theorem dX9_init_226 : decode cX9_init 226 = .ok (.aload_n 0, 1) := by decide +kernel
theorem dX9_init_227 : decode cX9_init 227 = .ok (.bipush 24, 2) := by decide +kernel
theorem dX9_init_229 : decode cX9_init 229 = .ok (.newarray .int, 2) := by decide +kernel
theorem dX9_init_231 : decode cX9_init 231 = .ok (.putfield 95, 3) := by decide +kernel
theorem dX9_init_234 : decode cX9_init 234 = .ok (.aload_n 0, 1) := by decide +kernel
theorem dX9_init_235 : decode cX9_init 235 = .ok (.bipush 24, 2) := by decide +kernel
theorem dX9_init_237 : decode cX9_init 237 = .ok (.newarray .int, 2) := by decide +kernel
theorem dX9_init_239 : decode cX9_init 239 = .ok (.putfield 98, 3) := by decide +kernel
theorem dX9_init_242 : decode cX9_init 242 = .ok (.aload_n 0, 1) := by decide +kernel
theorem dX9_init_243 : decode cX9_init 243 = .ok (.bipush 24, 2) := by decide +kernel
theorem dX9_init_245 : decode cX9_init 245 = .ok (.newarray .int, 2) := by decide +kernel
theorem dX9_init_247 : decode cX9_init 247 = .ok (.putfield 101, 3) := by decide +kernel
theorem dX9_init_250 : decode cX9_init 250 = .ok (.aload_n 0, 1) := by decide +kernel
theorem dX9_init_251 : decode cX9_init 251 = .ok (.bipush 24, 2) := by decide +kernel
theorem dX9_init_253 : decode cX9_init 253 = .ok (.newarray .int, 2) := by decide +kernel
theorem dX9_init_255 : decode cX9_init 255 = .ok (.putfield 104, 3) := by decide +kernel
theorem dX9_init_258 : decode cX9_init 258 = .ok (.aload_n 0, 1) := by decide +kernel
theorem dX9_init_259 : decode cX9_init 259 = .ok (.bipush 24, 2) := by decide +kernel
theorem dX9_init_261 : decode cX9_init 261 = .ok (.newarray .int, 2) := by decide +kernel
theorem dX9_init_263 : decode cX9_init 263 = .ok (.putfield 107, 3) := by decide +kernel
theorem dX9_init_266 : decode cX9_init 266 = .ok (.aload_n 0, 1) := by decide +kernel
theorem dX9_init_267 : decode cX9_init 267 = .ok (.bipush 60, 2) := by decide +kernel
theorem dX9_init_269 : decode cX9_init 269 = .ok (.newarray .int, 2) := by decide +kernel
theorem dX9_init_271 : decode cX9_init 271 = .ok (.putfield 110, 3) := by decide +kernel
theorem dX9_init_274 : decode cX9_init 274 = .ok (.aload_n 0, 1) := by decide +kernel
theorem dX9_init_275 : decode cX9_init 275 = .ok (.bipush 60, 2) := by decide +kernel
theorem dX9_init_277 : decode cX9_init 277 = .ok (.newarray .int, 2) := by decide +kernel
theorem dX9_init_279 : decode cX9_init 279 = .ok (.putfield 113, 3) := by decide +kernel
theorem dX9_init_282 : decode cX9_init 282 = .ok (.aload_n 0, 1) := by decide +kernel
theorem dX9_init_283 : decode cX9_init 283 = .ok (.bipush 60, 2) := by decide +kernel
theorem dX9_init_285 : decode cX9_init 285 = .ok (.newarray .int, 2) := by decide +kernel
theorem dX9_init_287 : decode cX9_init 287 = .ok (.putfield 116, 3) := by decide +kernel
theorem dX9_init_290 : decode cX9_init 290 = .ok (.aload_n 0, 1) := by decide +kernel
theorem dX9_init_291 : decode cX9_init 291 = .ok (.sipush 1010, 3) := by decide +kernel
theorem dX9_init_294 : decode cX9_init 294 = .ok (.newarray .int, 2) := by decide +kernel
theorem dX9_init_296 : decode cX9_init 296 = .ok (.putfield 119, 3) := by decide +kernel
theorem dX9_init_299 : decode cX9_init 299 = .ok (.aload_n 0, 1) := by decide +kernel
theorem dX9_init_300 : decode cX9_init 300 = .ok (.bipush 8, 2) := by decide +kernel
theorem dX9_init_302 : decode cX9_init 302 = .ok (.newarray .int, 2) := by decide +kernel
theorem dX9_init_304 : decode cX9_init 304 = .ok (.putfield 122, 3) := by decide +kernel
theorem dX9_init_307 : decode cX9_init 307 = .ok (.aload_n 0, 1) := by decide +kernel
theorem dX9_init_308 : decode cX9_init 308 = .ok (.bipush 8, 2) := by decide +kernel
theorem dX9_init_310 : decode cX9_init 310 = .ok (.newarray .int, 2) := by decide +kernel
theorem dX9_init_312 : decode cX9_init 312 = .ok (.putfield 125, 3) := by decide +kernel
theorem dX9_init_315 : decode cX9_init 315 = .ok (.aload_n 0, 1) := by decide +kernel
theorem dX9_init_316 : decode cX9_init 316 = .ok (.sipush 21609, 3) := by decide +kernel
theorem dX9_init_319 : decode cX9_init 319 = .ok (.newarray .boolean, 2) := by decide +kernel
theorem dX9_init_321 : decode cX9_init 321 = .ok (.putfield 128, 3) := by decide +kernel
theorem dX9_init_324 : decode cX9_init 324 = .ok (.aload_n 0, 1) := by decide +kernel
theorem dX9_init_325 : decode cX9_init 325 = .ok (.sipush 21609, 3) := by decide +kernel
theorem dX9_init_328 : decode cX9_init 328 = .ok (.newarray .boolean, 2) := by decide +kernel
theorem dX9_init_330 : decode cX9_init 330 = .ok (.putfield 132, 3) := by decide +kernel
theorem dX9_init_333 : decode cX9_init 333 = .ok (.aload_n 0, 1) := by decide +kernel
theorem dX9_init_334 : decode cX9_init 334 = .ok (.bipush 8, 2) := by decide +kernel
theorem dX9_init_336 : decode cX9_init 336 = .ok (.newarray .int, 2) := by decide +kernel
theorem dX9_init_338 : decode cX9_init 338 = .ok (.putfield 135, 3) := by decide +kernel
theorem dX9_init_341 : decode cX9_init 341 = .ok (.aload_n 0, 1) := by decide +kernel
theorem dX9_init_342 : decode cX9_init 342 = .ok (.iload_n 1, 1) := by decide +kernel
theorem dX9_init_343 : decode cX9_init 343 = .ok (.iconst 4, 1) := by decide +kernel
theorem dX9_init_344 : decode cX9_init 344 = .ok (.if_icmp .lt 9, 3) := by decide +kernel
theorem dX9_init_347 : decode cX9_init 347 = .ok (.iload_n 1, 1) := by decide +kernel
theorem dX9_init_348 : decode cX9_init 348 = .ok (.bipush 24, 2) := by decide +kernel
theorem dX9_init_350 : decode cX9_init 350 = .ok (.if_icmp .le 8, 3) := by decide +kernel
theorem dX9_init_353 : decode cX9_init 353 = .ok (.bipush 12, 2) := by decide +kernel
theorem dX9_init_355 : decode cX9_init 355 = .ok (.goto 4, 3) := by decide +kernel
theorem dX9_init_358 : decode cX9_init 358 = .ok (.iload_n 1, 1) := by decide +kernel
theorem dX9_init_359 : decode cX9_init 359 = .ok (.putfield 138, 3) := by decide +kernel
theorem dX9_init_362 : decode cX9_init 362 = .ok (.iconst 0, 1) := by decide +kernel
theorem dX9_init_363 : decode cX9_init 363 = .ok (.istore_n 2, 1) := by decide +kernel
theorem dX9_init_364 : decode cX9_init 364 = .ok (.iload_n 2, 1) := by decide +kernel
theorem dX9_init_365 : decode cX9_init 365 = .ok (.bipush 24, 2) := by decide +kernel
theorem dX9_init_367 : decode cX9_init 367 = .ok (.if_icmp .ge 16, 3) := by decide +kernel
theorem dX9_init_370 : decode cX9_init 370 = .ok (.aload_n 0, 1) := by decide +kernel
theorem dX9_init_371 : decode cX9_init 371 = .ok (.getfield 95, 3) := by decide +kernel
theorem dX9_init_374 : decode cX9_init 374 = .ok (.iload_n 2, 1) := by decide +kernel
theorem dX9_init_375 : decode cX9_init 375 = .ok (.iconst (-1), 1) := by decide +kernel
theorem dX9_init_376 : decode cX9_init 376 = .ok (.iastore, 1) := by decide +kernel
theorem dX9_init_377 : decode cX9_init 377 = .ok (.iinc 2 1, 3) := by decide +kernel
theorem dX9_init_380 : decode cX9_init 380 = .ok (.goto (-16), 3) := by decide +kernel
theorem dX9_init_383 : decode cX9_init 383 = .ok (.return_, 1) := by decide +kernel
theorem dX9_isBarred_0 : decode cX9_isBarred 0 = .ok (.iload_n 1, 1) := by decide +kernel
theorem dX9_isBarred_1 : decode cX9_isBarred 1 = .ok (.iconst 2, 1) := by decide +kernel
theorem dX9_isBarred_2 : decode cX9_isBarred 2 = .ok (.if_icmp .ne 10, 3) := by decide +kernel
theorem dX9_isBarred_5 : decode cX9_isBarred 5 = .ok (.aload_n 0, 1) := by decide +kernel
theorem dX9_isBarred_6 : decode cX9_isBarred 6 = .ok (.iconst 2, 1) := by decide +kernel
theorem dX9_isBarred_7 : decode cX9_isBarred 7 = .ok (.iload_n 2, 1) := by decide +kernel
theorem dX9_isBarred_8 : decode cX9_isBarred 8 = .ok (.invokevirtual 248, 3) := by decide +kernel
theorem dX9_isBarred_11 : decode cX9_isBarred 11 = .ok (.ireturn, 1) := by decide +kernel
theorem dX9_isBarred_12 : decode cX9_isBarred 12 = .ok (.iload_n 1, 1) := by decide +kernel
theorem dX9_isBarred_13 : decode cX9_isBarred 13 = .ok (.iconst 3, 1) := by decide +kernel
theorem dX9_isBarred_14 : decode cX9_isBarred 14 = .ok (.if_icmp .ne 40, 3) := by decide +kernel
theorem dX9_isBarred_17 : decode cX9_isBarred 17 = .ok (.aload_n 0, 1) := by decide +kernel
theorem dX9_isBarred_18 : decode cX9_isBarred 18 = .ok (.iconst 3, 1) := by decide +kernel
theorem dX9_isBarred_19 : decode cX9_isBarred 19 = .ok (.iload_n 2, 1) := by decide +kernel
theorem dX9_isBarred_20 : decode cX9_isBarred 20 = .ok (.invokevirtual 248, 3) := by decide +kernel
theorem dX9_isBarred_23 : decode cX9_isBarred 23 = .ok (.ifCond .ne 25, 3) := by decide +kernel
theorem dX9_isBarred_26 : decode cX9_isBarred 26 = .ok (.aload_n 0, 1) := by decide +kernel
theorem dX9_isBarred_27 : decode cX9_isBarred 27 = .ok (.iconst 0, 1) := by decide +kernel
theorem dX9_isBarred_28 : decode cX9_isBarred 28 = .ok (.iload_n 2, 1) := by decide +kernel
theorem dX9_isBarred_29 : decode cX9_isBarred 29 = .ok (.iconst 2, 1) := by decide +kernel
theorem dX9_isBarred_30 : decode cX9_isBarred 30 = .ok (.idiv, 1) := by decide +kernel
theorem dX9_isBarred_31 : decode cX9_isBarred 31 = .ok (.invokevirtual 248, 3) := by decide +kernel
theorem dX9_isBarred_34 : decode cX9_isBarred 34 = .ok (.ifCond .ne 14, 3) := by decide +kernel
theorem dX9_isBarred_37 : decode cX9_isBarred 37 = .ok (.aload_n 0, 1) := by decide +kernel
theorem dX9_isBarred_38 : decode cX9_isBarred 38 = .ok (.iconst 1, 1) := by decide +kernel
theorem dX9_isBarred_39 : decode cX9_isBarred 39 = .ok (.iload_n 2, 1) := by decide +kernel
theorem dX9_isBarred_40 : decode cX9_isBarred 40 = .ok (.iconst 2, 1) := by decide +kernel
theorem dX9_isBarred_41 : decode cX9_isBarred 41 = .ok (.idiv, 1) := by decide +kernel
theorem dX9_isBarred_42 : decode cX9_isBarred 42 = .ok (.invokevirtual 248, 3) := by decide +kernel
theorem dX9_isBarred_45 : decode cX9_isBarred 45 = .ok (.ifCond .eq 7, 3) := by decide +kernel
theorem dX9_isBarred_48 : decode cX9_isBarred 48 = .ok (.iconst 1, 1) := by decide +kernel
theorem dX9_isBarred_49 : decode cX9_isBarred 49 = .ok (.goto 4, 3) := by decide +kernel
theorem dX9_isBarred_52 : decode cX9_isBarred 52 = .ok (.iconst 0, 1) := by decide +kernel
theorem dX9_isBarred_53 : decode cX9_isBarred 53 = .ok (.ireturn, 1) := by decide +kernel
theorem dX9_isBarred_54 : decode cX9_isBarred 54 = .ok (.aload_n 0, 1) := by decide +kernel
theorem dX9_isBarred_55 : decode cX9_isBarred 55 = .ok (.iconst 0, 1) := by decide +kernel
theorem dX9_isBarred_56 : decode cX9_isBarred 56 = .ok (.iload_n 2, 1) := by decide +kernel
theorem dX9_isBarred_57 : decode cX9_isBarred 57 = .ok (.invokevirtual 248, 3) := by decide +kernel
theorem dX9_isBarred_60 : decode cX9_isBarred 60 = .ok (.ifCond .ne 36, 3) := by decide +kernel
theorem dX9_isBarred_63 : decode cX9_isBarred 63 = .ok (.aload_n 0, 1) := by decide +kernel
theorem dX9_isBarred_64 : decode cX9_isBarred 64 = .ok (.iconst 1, 1) := by decide +kernel
theorem dX9_isBarred_65 : decode cX9_isBarred 65 = .ok (.iload_n 2, 1) := by decide +kernel
theorem dX9_isBarred_66 : decode cX9_isBarred 66 = .ok (.invokevirtual 248, 3) := by decide +kernel
theorem dX9_isBarred_69 : decode cX9_isBarred 69 = .ok (.ifCond .ne 27, 3) := by decide +kernel
theorem dX9_isBarred_72 : decode cX9_isBarred 72 = .ok (.aload_n 0, 1) := by decide +kernel
theorem dX9_isBarred_73 : decode cX9_isBarred 73 = .ok (.iconst 3, 1) := by decide +kernel
theorem dX9_isBarred_74 : decode cX9_isBarred 74 = .ok (.iconst 2, 1) := by decide +kernel
theorem dX9_isBarred_75 : decode cX9_isBarred 75 = .ok (.iload_n 2, 1) := by decide +kernel
theorem dX9_isBarred_76 : decode cX9_isBarred 76 = .ok (.imul, 1) := by decide +kernel
theorem dX9_isBarred_77 : decode cX9_isBarred 77 = .ok (.invokevirtual 248, 3) := by decide +kernel
theorem dX9_isBarred_80 : decode cX9_isBarred 80 = .ok (.ifCond .ne 16, 3) := by decide +kernel
theorem dX9_isBarred_83 : decode cX9_isBarred 83 = .ok (.aload_n 0, 1) := by decide +kernel
theorem dX9_isBarred_84 : decode cX9_isBarred 84 = .ok (.iconst 3, 1) := by decide +kernel
theorem dX9_isBarred_85 : decode cX9_isBarred 85 = .ok (.iconst 2, 1) := by decide +kernel
theorem dX9_isBarred_86 : decode cX9_isBarred 86 = .ok (.iload_n 2, 1) := by decide +kernel
theorem dX9_isBarred_87 : decode cX9_isBarred 87 = .ok (.imul, 1) := by decide +kernel
theorem dX9_isBarred_88 : decode cX9_isBarred 88 = .ok (.iconst 1, 1) := by decide +kernel
theorem dX9_isBarred_89 : decode cX9_isBarred 89 = .ok (.iadd, 1) := by decide +kernel
theorem dX9_isBarred_90 : decode cX9_isBarred 90 = .ok (.invokevirtual 248, 3) := by decide +kernel
theorem dX9_isBarred_93 : decode cX9_isBarred 93 = .ok (.ifCond .eq 7, 3) := by decide +kernel
theorem dX9_isBarred_96 : decode cX9_isBarred 96 = .ok (.iconst 1, 1) := by decide +kernel
theorem dX9_isBarred_97 : decode cX9_isBarred 97 = .ok (.goto 4, 3) := by decide +kernel
theorem dX9_isBarred_100 : decode cX9_isBarred 100 = .ok (.iconst 0, 1) := by decide +kernel
theorem dX9_isBarred_101 : decode cX9_isBarred 101 = .ok (.ireturn, 1) := by decide +kernel
theorem dX9_isDigit_0 : decode cX9_isDigit 0 = .ok (.iload_n 0, 1) := by decide +kernel
theorem dX9_isDigit_1 : decode cX9_isDigit 1 = .ok (.bipush 48, 2) := by decide +kernel
theorem dX9_isDigit_3 : decode cX9_isDigit 3 = .ok (.if_icmp .lt 13, 3) := by decide +kernel
theorem dX9_isDigit_6 : decode cX9_isDigit 6 = .ok (.iload_n 0, 1) := by decide +kernel
theorem dX9_isDigit_7 : decode cX9_isDigit 7 = .ok (.bipush 57, 2) := by decide +kernel
theorem dX9_isDigit_9 : decode cX9_isDigit 9 = .ok (.if_icmp .gt 7, 3) := by decide +kernel
theorem dX9_isDigit_12 : decode cX9_isDigit 12 = .ok (.iconst 1, 1) := by decide +kernel
theorem dX9_isDigit_13 : decode cX9_isDigit 13 = .ok (.goto 4, 3) := by decide +kernel
theorem dX9_isDigit_16 : decode cX9_isDigit 16 = .ok (.iconst 0, 1) := by decide +kernel
theorem dX9_isDigit_17 : decode cX9_isDigit 17 = .ok (.ireturn, 1) := by decide +kernel
theorem dX9_isLetter_0 : decode cX9_isLetter 0 = .ok (.iload_n 0, 1) := by decide +kernel
theorem dX9_isLetter_1 : decode cX9_isLetter 1 = .ok (.bipush 97, 2) := by decide +kernel
theorem dX9_isLetter_3 : decode cX9_isLetter 3 = .ok (.if_icmp .lt 13, 3) := by decide +kernel
theorem dX9_isLetter_6 : decode cX9_isLetter 6 = .ok (.iload_n 0, 1) := by decide +kernel
theorem dX9_isLetter_7 : decode cX9_isLetter 7 = .ok (.bipush 122, 2) := by decide +kernel
theorem dX9_isLetter_9 : decode cX9_isLetter 9 = .ok (.if_icmp .gt 7, 3) := by decide +kernel
theorem dX9_isLetter_12 : decode cX9_isLetter 12 = .ok (.iconst 1, 1) := by decide +kernel
theorem dX9_isLetter_13 : decode cX9_isLetter 13 = .ok (.goto 4, 3) := by decide +kernel
theorem dX9_isLetter_16 : decode cX9_isLetter 16 = .ok (.iconst 0, 1) := by decide +kernel
theorem dX9_isLetter_17 : decode cX9_isLetter 17 = .ok (.ireturn, 1) := by decide +kernel
theorem dX9_isMeant_0 : decode cX9_isMeant 0 = .ok (.iload_n 1, 1) := by decide +kernel
theorem dX9_isMeant_1 : decode cX9_isMeant 1 = .ok (.ifCond .ne 44, 3) := by decide +kernel
theorem dX9_isMeant_4 : decode cX9_isMeant 4 = .ok (.aload_n 0, 1) := by decide +kernel
theorem dX9_isMeant_5 : decode cX9_isMeant 5 = .ok (.getfield 83, 3) := by decide +kernel
theorem dX9_isMeant_8 : decode cX9_isMeant 8 = .ok (.iload_n 2, 1) := by decide +kernel
theorem dX9_isMeant_9 : decode cX9_isMeant 9 = .ok (.iaload, 1) := by decide +kernel
theorem dX9_isMeant_10 : decode cX9_isMeant 10 = .ok (.ifCond .ne 33, 3) := by decide +kernel
theorem dX9_isMeant_13 : decode cX9_isMeant 13 = .ok (.aload_n 0, 1) := by decide +kernel
theorem dX9_isMeant_14 : decode cX9_isMeant 14 = .ok (.getfield 86, 3) := by decide +kernel
theorem dX9_isMeant_17 : decode cX9_isMeant 17 = .ok (.iconst 2, 1) := by decide +kernel
theorem dX9_isMeant_18 : decode cX9_isMeant 18 = .ok (.iload_n 2, 1) := by decide +kernel
theorem dX9_isMeant_19 : decode cX9_isMeant 19 = .ok (.imul, 1) := by decide +kernel
theorem dX9_isMeant_20 : decode cX9_isMeant 20 = .ok (.iaload, 1) := by decide +kernel
theorem dX9_isMeant_21 : decode cX9_isMeant 21 = .ok (.iconst 2, 1) := by decide +kernel
theorem dX9_isMeant_22 : decode cX9_isMeant 22 = .ok (.if_icmp .eq 21, 3) := by decide +kernel
theorem dX9_isMeant_25 : decode cX9_isMeant 25 = .ok (.aload_n 0, 1) := by decide +kernel
theorem dX9_isMeant_26 : decode cX9_isMeant 26 = .ok (.getfield 86, 3) := by decide +kernel
theorem dX9_isMeant_29 : decode cX9_isMeant 29 = .ok (.iconst 2, 1) := by decide +kernel
theorem dX9_isMeant_30 : decode cX9_isMeant 30 = .ok (.iload_n 2, 1) := by decide +kernel
theorem dX9_isMeant_31 : decode cX9_isMeant 31 = .ok (.imul, 1) := by decide +kernel
theorem dX9_isMeant_32 : decode cX9_isMeant 32 = .ok (.iconst 1, 1) := by decide +kernel
theorem dX9_isMeant_33 : decode cX9_isMeant 33 = .ok (.iadd, 1) := by decide +kernel
theorem dX9_isMeant_34 : decode cX9_isMeant 34 = .ok (.iaload, 1) := by decide +kernel
theorem dX9_isMeant_35 : decode cX9_isMeant 35 = .ok (.iconst 2, 1) := by decide +kernel
theorem dX9_isMeant_36 : decode cX9_isMeant 36 = .ok (.if_icmp .eq 7, 3) := by decide +kernel
theorem dX9_isMeant_39 : decode cX9_isMeant 39 = .ok (.iconst 1, 1) := by decide +kernel
theorem dX9_isMeant_40 : decode cX9_isMeant 40 = .ok (.goto 4, 3) := by decide +kernel
theorem dX9_isMeant_43 : decode cX9_isMeant 43 = .ok (.iconst 0, 1) := by decide +kernel
theorem dX9_isMeant_44 : decode cX9_isMeant 44 = .ok (.ireturn, 1) := by decide +kernel
theorem dX9_isMeant_45 : decode cX9_isMeant 45 = .ok (.iload_n 1, 1) := by decide +kernel
theorem dX9_isMeant_46 : decode cX9_isMeant 46 = .ok (.iconst 1, 1) := by decide +kernel
theorem dX9_isMeant_47 : decode cX9_isMeant 47 = .ok (.if_icmp .ne 21, 3) := by decide +kernel
theorem dX9_isMeant_50 : decode cX9_isMeant 50 = .ok (.aload_n 0, 1) := by decide +kernel
theorem dX9_isMeant_51 : decode cX9_isMeant 51 = .ok (.getfield 83, 3) := by decide +kernel
theorem dX9_isMeant_54 : decode cX9_isMeant 54 = .ok (.iload_n 2, 1) := by decide +kernel
theorem dX9_isMeant_55 : decode cX9_isMeant 55 = .ok (.iaload, 1) := by decide +kernel
theorem dX9_isMeant_56 : decode cX9_isMeant 56 = .ok (.iconst 1, 1) := by decide +kernel
theorem dX9_isMeant_57 : decode cX9_isMeant 57 = .ok (.if_icmp .ne 7, 3) := by decide +kernel
theorem dX9_isMeant_60 : decode cX9_isMeant 60 = .ok (.iconst 1, 1) := by decide +kernel
theorem dX9_isMeant_61 : decode cX9_isMeant 61 = .ok (.goto 45, 3) := by decide +kernel
theorem dX9_isMeant_64 : decode cX9_isMeant 64 = .ok (.iconst 0, 1) := by decide +kernel
theorem dX9_isMeant_65 : decode cX9_isMeant 65 = .ok (.goto 41, 3) := by decide +kernel
theorem dX9_isMeant_68 : decode cX9_isMeant 68 = .ok (.iload_n 1, 1) := by decide +kernel
theorem dX9_isMeant_69 : decode cX9_isMeant 69 = .ok (.iconst 2, 1) := by decide +kernel
theorem dX9_isMeant_70 : decode cX9_isMeant 70 = .ok (.if_icmp .ne 21, 3) := by decide +kernel
theorem dX9_isMeant_73 : decode cX9_isMeant 73 = .ok (.aload_n 0, 1) := by decide +kernel
theorem dX9_isMeant_74 : decode cX9_isMeant 74 = .ok (.getfield 92, 3) := by decide +kernel
theorem dX9_isMeant_77 : decode cX9_isMeant 77 = .ok (.iload_n 2, 1) := by decide +kernel
theorem dX9_isMeant_78 : decode cX9_isMeant 78 = .ok (.iaload, 1) := by decide +kernel
theorem dX9_isMeant_79 : decode cX9_isMeant 79 = .ok (.iload_n 3, 1) := by decide +kernel
theorem dX9_isMeant_80 : decode cX9_isMeant 80 = .ok (.if_icmp .eq 7, 3) := by decide +kernel
theorem dX9_isMeant_83 : decode cX9_isMeant 83 = .ok (.iconst 1, 1) := by decide +kernel
theorem dX9_isMeant_84 : decode cX9_isMeant 84 = .ok (.goto 22, 3) := by decide +kernel
theorem dX9_isMeant_87 : decode cX9_isMeant 87 = .ok (.iconst 0, 1) := by decide +kernel
theorem dX9_isMeant_88 : decode cX9_isMeant 88 = .ok (.goto 18, 3) := by decide +kernel
theorem dX9_isMeant_91 : decode cX9_isMeant 91 = .ok (.aload_n 0, 1) := by decide +kernel
theorem dX9_isMeant_92 : decode cX9_isMeant 92 = .ok (.getfield 86, 3) := by decide +kernel
theorem dX9_isMeant_95 : decode cX9_isMeant 95 = .ok (.iload_n 2, 1) := by decide +kernel
theorem dX9_isMeant_96 : decode cX9_isMeant 96 = .ok (.iaload, 1) := by decide +kernel
theorem dX9_isMeant_97 : decode cX9_isMeant 97 = .ok (.iconst 1, 1) := by decide +kernel
theorem dX9_isMeant_98 : decode cX9_isMeant 98 = .ok (.if_icmp .eq 7, 3) := by decide +kernel
theorem dX9_isMeant_101 : decode cX9_isMeant 101 = .ok (.iconst 1, 1) := by decide +kernel
theorem dX9_isMeant_102 : decode cX9_isMeant 102 = .ok (.goto 4, 3) := by decide +kernel
theorem dX9_isMeant_105 : decode cX9_isMeant 105 = .ok (.iconst 0, 1) := by decide +kernel
theorem dX9_isMeant_106 : decode cX9_isMeant 106 = .ok (.ireturn, 1) := by decide +kernel
theorem dX9_isOnDeck_0 : decode cX9_isOnDeck 0 = .ok (.aload_n 0, 1) := by decide +kernel
theorem dX9_isOnDeck_1 : decode cX9_isOnDeck 1 = .ok (.getfield 252, 3) := by decide +kernel
theorem dX9_isOnDeck_4 : decode cX9_isOnDeck 4 = .ok (.iconst 2, 1) := by decide +kernel
theorem dX9_isOnDeck_5 : decode cX9_isOnDeck 5 = .ok (.if_icmp .eq 13, 3) := by decide +kernel
theorem dX9_isOnDeck_8 : decode cX9_isOnDeck 8 = .ok (.aload_n 0, 1) := by decide +kernel
theorem dX9_isOnDeck_9 : decode cX9_isOnDeck 9 = .ok (.getfield 252, 3) := by decide +kernel
theorem dX9_isOnDeck_12 : decode cX9_isOnDeck 12 = .ok (.iload_n 1, 1) := by decide +kernel
theorem dX9_isOnDeck_13 : decode cX9_isOnDeck 13 = .ok (.iconst 2, 1) := by decide +kernel
theorem dX9_isOnDeck_14 : decode cX9_isOnDeck 14 = .ok (.irem, 1) := by decide +kernel
theorem dX9_isOnDeck_15 : decode cX9_isOnDeck 15 = .ok (.if_icmp .ne 7, 3) := by decide +kernel
theorem dX9_isOnDeck_18 : decode cX9_isOnDeck 18 = .ok (.iconst 1, 1) := by decide +kernel
theorem dX9_isOnDeck_19 : decode cX9_isOnDeck 19 = .ok (.goto 4, 3) := by decide +kernel
theorem dX9_isOnDeck_22 : decode cX9_isOnDeck 22 = .ok (.iconst 0, 1) := by decide +kernel
theorem dX9_isOnDeck_23 : decode cX9_isOnDeck 23 = .ok (.ireturn, 1) := by decide +kernel
theorem dX9_isSign_0 : decode cX9_isSign 0 = .ok (.aload_n 0, 1) := by decide +kernel
theorem dX9_isSign_1 : decode cX9_isSign 1 = .ok (.getfield 167, 3) := by decide +kernel
theorem dX9_isSign_4 : decode cX9_isSign 4 = .ok (.ifCond .ne 35, 3) := by decide +kernel
theorem dX9_isSign_7 : decode cX9_isSign 7 = .ok (.aload_n 0, 1) := by decide +kernel
theorem dX9_isSign_8 : decode cX9_isSign 8 = .ok (.getfield 24, 3) := by decide +kernel
theorem dX9_isSign_11 : decode cX9_isSign 11 = .ok (.aload_n 0, 1) := by decide +kernel
theorem dX9_isSign_12 : decode cX9_isSign 12 = .ok (.getfield 164, 3) := by decide +kernel
theorem dX9_isSign_15 : decode cX9_isSign 15 = .ok (.iaload, 1) := by decide +kernel
theorem dX9_isSign_16 : decode cX9_isSign 16 = .ok (.iconst 3, 1) := by decide +kernel
theorem dX9_isSign_17 : decode cX9_isSign 17 = .ok (.if_icmp .ne 22, 3) := by decide +kernel
theorem dX9_isSign_20 : decode cX9_isSign 20 = .ok (.aload_n 0, 1) := by decide +kernel
