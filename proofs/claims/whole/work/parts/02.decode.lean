theorem dX0_init_0 : decode cX0_init 0 = .ok (.aload_n 0, 1) := by decide +kernel
theorem dX0_init_1 : decode cX0_init 1 = .ok (.invokespecial 3, 3) := by decide +kernel
theorem dX0_init_4 : decode cX0_init 4 = .ok (.aload_n 0, 1) := by decide +kernel
theorem dX0_init_5 : decode cX0_init 5 = .ok (.bipush 8, 2) := by decide +kernel
theorem dX0_init_7 : decode cX0_init 7 = .ok (.newarray .int, 2) := by decide +kernel
theorem dX0_init_9 : decode cX0_init 9 = .ok (.putfield 9, 3) := by decide +kernel
theorem dX0_init_12 : decode cX0_init 12 = .ok (.aload_n 0, 1) := by decide +kernel
theorem dX0_init_13 : decode cX0_init 13 = .ok (.bipush 8, 2) := by decide +kernel
theorem dX0_init_15 : decode cX0_init 15 = .ok (.newarray .int, 2) := by decide +kernel
theorem dX0_init_17 : decode cX0_init 17 = .ok (.putfield 15, 3) := by decide +kernel
theorem dX0_init_20 : decode cX0_init 20 = .ok (.aload_n 0, 1) := by decide +kernel
theorem dX0_init_21 : decode cX0_init 21 = .ok (.bipush 8, 2) := by decide +kernel
theorem dX0_init_23 : decode cX0_init 23 = .ok (.newarray .int, 2) := by decide +kernel
theorem dX0_init_25 : decode cX0_init 25 = .ok (.putfield 18, 3) := by decide +kernel
theorem dX0_init_28 : decode cX0_init 28 = .ok (.aload_n 0, 1) := by decide +kernel
theorem dX0_init_29 : decode cX0_init 29 = .ok (.bipush 14, 2) := by decide +kernel
theorem dX0_init_31 : decode cX0_init 31 = .ok (.newarray .int, 2) := by decide +kernel
theorem dX0_init_33 : decode cX0_init 33 = .ok (.putfield 21, 3) := by decide +kernel
theorem dX0_init_36 : decode cX0_init 36 = .ok (.aload_n 0, 1) := by decide +kernel
theorem dX0_init_37 : decode cX0_init 37 = .ok (.bipush 14, 2) := by decide +kernel
theorem dX0_init_39 : decode cX0_init 39 = .ok (.newarray .int, 2) := by decide +kernel
theorem dX0_init_41 : decode cX0_init 41 = .ok (.putfield 24, 3) := by decide +kernel
theorem dX0_init_44 : decode cX0_init 44 = .ok (.aload_n 0, 1) := by decide +kernel
theorem dX0_init_45 : decode cX0_init 45 = .ok (.bipush 14, 2) := by decide +kernel
theorem dX0_init_47 : decode cX0_init 47 = .ok (.newarray .int, 2) := by decide +kernel
theorem dX0_init_49 : decode cX0_init 49 = .ok (.putfield 27, 3) := by decide +kernel
theorem dX0_init_52 : decode cX0_init 52 = .ok (.aload_n 0, 1) := by decide +kernel
theorem dX0_init_53 : decode cX0_init 53 = .ok (.bipush 14, 2) := by decide +kernel
theorem dX0_init_55 : decode cX0_init 55 = .ok (.newarray .int, 2) := by decide +kernel
theorem dX0_init_57 : decode cX0_init 57 = .ok (.putfield 30, 3) := by decide +kernel
theorem dX0_init_60 : decode cX0_init 60 = .ok (.aload_n 0, 1) := by decide +kernel
theorem dX0_init_61 : decode cX0_init 61 = .ok (.bipush 14, 2) := by decide +kernel
theorem dX0_init_63 : decode cX0_init 63 = .ok (.newarray .int, 2) := by decide +kernel
theorem dX0_init_65 : decode cX0_init 65 = .ok (.putfield 33, 3) := by decide +kernel
theorem dX0_init_68 : decode cX0_init 68 = .ok (.aload_n 0, 1) := by decide +kernel
theorem dX0_init_69 : decode cX0_init 69 = .ok (.bipush 14, 2) := by decide +kernel
theorem dX0_init_71 : decode cX0_init 71 = .ok (.newarray .int, 2) := by decide +kernel
theorem dX0_init_73 : decode cX0_init 73 = .ok (.putfield 36, 3) := by decide +kernel
theorem dX0_init_76 : decode cX0_init 76 = .ok (.aload_n 0, 1) := by decide +kernel
theorem dX0_init_77 : decode cX0_init 77 = .ok (.bipush 14, 2) := by decide +kernel
theorem dX0_init_79 : decode cX0_init 79 = .ok (.newarray .long, 2) := by decide +kernel
theorem dX0_init_81 : decode cX0_init 81 = .ok (.putfield 39, 3) := by decide +kernel
theorem dX0_init_84 : decode cX0_init 84 = .ok (.aload_n 0, 1) := by decide +kernel
theorem dX0_init_85 : decode cX0_init 85 = .ok (.iconst 0, 1) := by decide +kernel
theorem dX0_init_86 : decode cX0_init 86 = .ok (.putfield 43, 3) := by decide +kernel
theorem dX0_init_89 : decode cX0_init 89 = .ok (.aload_n 0, 1) := by decide +kernel
theorem dX0_init_90 : decode cX0_init 90 = .ok (.iconst 0, 1) := by decide +kernel
theorem dX0_init_91 : decode cX0_init 91 = .ok (.putfield 47, 3) := by decide +kernel
theorem dX0_init_94 : decode cX0_init 94 = .ok (.aload_n 0, 1) := by decide +kernel
theorem dX0_init_95 : decode cX0_init 95 = .ok (.iconst 0, 1) := by decide +kernel
theorem dX0_init_96 : decode cX0_init 96 = .ok (.putfield 50, 3) := by decide +kernel
theorem dX0_init_99 : decode cX0_init 99 = .ok (.return_, 1) := by decide +kernel
theorem dX0_hasRole_0 : decode cX0_hasRole 0 = .ok (.iload_n 1, 1) := by decide +kernel
theorem dX0_hasRole_1 : decode cX0_hasRole 1 = .ok (.ifCond .lt 21, 3) := by decide +kernel
theorem dX0_hasRole_4 : decode cX0_hasRole 4 = .ok (.iload_n 1, 1) := by decide +kernel
theorem dX0_hasRole_5 : decode cX0_hasRole 5 = .ok (.aload_n 0, 1) := by decide +kernel
theorem dX0_hasRole_6 : decode cX0_hasRole 6 = .ok (.getfield 47, 3) := by decide +kernel
theorem dX0_hasRole_9 : decode cX0_hasRole 9 = .ok (.if_icmp .ge 13, 3) := by decide +kernel
theorem dX0_hasRole_12 : decode cX0_hasRole 12 = .ok (.iload_n 1, 1) := by decide +kernel
theorem dX0_hasRole_13 : decode cX0_hasRole 13 = .ok (.bipush 14, 2) := by decide +kernel
theorem dX0_hasRole_15 : decode cX0_hasRole 15 = .ok (.if_icmp .ge 7, 3) := by decide +kernel
theorem dX0_hasRole_18 : decode cX0_hasRole 18 = .ok (.iconst 1, 1) := by decide +kernel
theorem dX0_hasRole_19 : decode cX0_hasRole 19 = .ok (.goto 4, 3) := by decide +kernel
theorem dX0_hasRole_22 : decode cX0_hasRole 22 = .ok (.iconst 0, 1) := by decide +kernel
theorem dX0_hasRole_23 : decode cX0_hasRole 23 = .ok (.ireturn, 1) := by decide +kernel
theorem dX0_hasRecord_0 : decode cX0_hasRecord 0 = .ok (.iload_n 1, 1) := by decide +kernel
theorem dX0_hasRecord_1 : decode cX0_hasRecord 1 = .ok (.ifCond .lt 21, 3) := by decide +kernel
theorem dX0_hasRecord_4 : decode cX0_hasRecord 4 = .ok (.iload_n 1, 1) := by decide +kernel
theorem dX0_hasRecord_5 : decode cX0_hasRecord 5 = .ok (.aload_n 0, 1) := by decide +kernel
theorem dX0_hasRecord_6 : decode cX0_hasRecord 6 = .ok (.getfield 43, 3) := by decide +kernel
theorem dX0_hasRecord_9 : decode cX0_hasRecord 9 = .ok (.if_icmp .ge 13, 3) := by decide +kernel
theorem dX0_hasRecord_12 : decode cX0_hasRecord 12 = .ok (.iload_n 1, 1) := by decide +kernel
theorem dX0_hasRecord_13 : decode cX0_hasRecord 13 = .ok (.bipush 8, 2) := by decide +kernel
theorem dX0_hasRecord_15 : decode cX0_hasRecord 15 = .ok (.if_icmp .ge 7, 3) := by decide +kernel
theorem dX0_hasRecord_18 : decode cX0_hasRecord 18 = .ok (.iconst 1, 1) := by decide +kernel
theorem dX0_hasRecord_19 : decode cX0_hasRecord 19 = .ok (.goto 4, 3) := by decide +kernel
theorem dX0_hasRecord_22 : decode cX0_hasRecord 22 = .ok (.iconst 0, 1) := by decide +kernel
theorem dX0_hasRecord_23 : decode cX0_hasRecord 23 = .ok (.ireturn, 1) := by decide +kernel
theorem dX0_isOriginal_0 : decode cX0_isOriginal 0 = .ok (.aload_n 0, 1) := by decide +kernel
theorem dX0_isOriginal_1 : decode cX0_isOriginal 1 = .ok (.iload_n 1, 1) := by decide +kernel
theorem dX0_isOriginal_2 : decode cX0_isOriginal 2 = .ok (.invokevirtual 53, 3) := by decide +kernel
theorem dX0_isOriginal_5 : decode cX0_isOriginal 5 = .ok (.ifCond .eq 17, 3) := by decide +kernel
theorem dX0_isOriginal_8 : decode cX0_isOriginal 8 = .ok (.aload_n 0, 1) := by decide +kernel
theorem dX0_isOriginal_9 : decode cX0_isOriginal 9 = .ok (.getfield 18, 3) := by decide +kernel
theorem dX0_isOriginal_12 : decode cX0_isOriginal 12 = .ok (.iload_n 1, 1) := by decide +kernel
theorem dX0_isOriginal_13 : decode cX0_isOriginal 13 = .ok (.iaload, 1) := by decide +kernel
theorem dX0_isOriginal_14 : decode cX0_isOriginal 14 = .ok (.iconst (-1), 1) := by decide +kernel
theorem dX0_isOriginal_15 : decode cX0_isOriginal 15 = .ok (.if_icmp .ne 7, 3) := by decide +kernel
theorem dX0_isOriginal_18 : decode cX0_isOriginal 18 = .ok (.iconst 1, 1) := by decide +kernel
theorem dX0_isOriginal_19 : decode cX0_isOriginal 19 = .ok (.goto 4, 3) := by decide +kernel
theorem dX0_isOriginal_22 : decode cX0_isOriginal 22 = .ok (.iconst 0, 1) := by decide +kernel
theorem dX0_isOriginal_23 : decode cX0_isOriginal 23 = .ok (.ireturn, 1) := by decide +kernel
theorem dX0_sizeOf_0 : decode cX0_sizeOf 0 = .ok (.aload_n 0, 1) := by decide +kernel
theorem dX0_sizeOf_1 : decode cX0_sizeOf 1 = .ok (.iload_n 1, 1) := by decide +kernel
theorem dX0_sizeOf_2 : decode cX0_sizeOf 2 = .ok (.invokevirtual 53, 3) := by decide +kernel
theorem dX0_sizeOf_5 : decode cX0_sizeOf 5 = .ok (.ifCond .eq 12, 3) := by decide +kernel
theorem dX0_sizeOf_8 : decode cX0_sizeOf 8 = .ok (.aload_n 0, 1) := by decide +kernel
theorem dX0_sizeOf_9 : decode cX0_sizeOf 9 = .ok (.getfield 15, 3) := by decide +kernel
theorem dX0_sizeOf_12 : decode cX0_sizeOf 12 = .ok (.iload_n 1, 1) := by decide +kernel
theorem dX0_sizeOf_13 : decode cX0_sizeOf 13 = .ok (.iaload, 1) := by decide +kernel
theorem dX0_sizeOf_14 : decode cX0_sizeOf 14 = .ok (.goto 4, 3) := by decide +kernel
theorem dX0_sizeOf_17 : decode cX0_sizeOf 17 = .ok (.iconst 0, 1) := by decide +kernel
theorem dX0_sizeOf_18 : decode cX0_sizeOf 18 = .ok (.ireturn, 1) := by decide +kernel
theorem dX0_firstOf_0 : decode cX0_firstOf 0 = .ok (.aload_n 0, 1) := by decide +kernel
theorem dX0_firstOf_1 : decode cX0_firstOf 1 = .ok (.iload_n 1, 1) := by decide +kernel
theorem dX0_firstOf_2 : decode cX0_firstOf 2 = .ok (.invokevirtual 53, 3) := by decide +kernel
theorem dX0_firstOf_5 : decode cX0_firstOf 5 = .ok (.ifCond .eq 12, 3) := by decide +kernel
theorem dX0_firstOf_8 : decode cX0_firstOf 8 = .ok (.aload_n 0, 1) := by decide +kernel
theorem dX0_firstOf_9 : decode cX0_firstOf 9 = .ok (.getfield 9, 3) := by decide +kernel
theorem dX0_firstOf_12 : decode cX0_firstOf 12 = .ok (.iload_n 1, 1) := by decide +kernel
theorem dX0_firstOf_13 : decode cX0_firstOf 13 = .ok (.iaload, 1) := by decide +kernel
theorem dX0_firstOf_14 : decode cX0_firstOf 14 = .ok (.goto 4, 3) := by decide +kernel
theorem dX0_firstOf_17 : decode cX0_firstOf 17 = .ok (.iconst (-1), 1) := by decide +kernel
theorem dX0_firstOf_18 : decode cX0_firstOf 18 = .ok (.ireturn, 1) := by decide +kernel
theorem dX0_hasSpace_0 : decode cX0_hasSpace 0 = .ok (.aload_n 0, 1) := by decide +kernel
theorem dX0_hasSpace_1 : decode cX0_hasSpace 1 = .ok (.getfield 43, 3) := by decide +kernel
theorem dX0_hasSpace_4 : decode cX0_hasSpace 4 = .ok (.bipush 8, 2) := by decide +kernel
theorem dX0_hasSpace_6 : decode cX0_hasSpace 6 = .ok (.if_icmp .ge 18, 3) := by decide +kernel
theorem dX0_hasSpace_9 : decode cX0_hasSpace 9 = .ok (.aload_n 0, 1) := by decide +kernel
theorem dX0_hasSpace_10 : decode cX0_hasSpace 10 = .ok (.getfield 47, 3) := by decide +kernel
theorem dX0_hasSpace_13 : decode cX0_hasSpace 13 = .ok (.iload_n 1, 1) := by decide +kernel
theorem dX0_hasSpace_14 : decode cX0_hasSpace 14 = .ok (.iadd, 1) := by decide +kernel
theorem dX0_hasSpace_15 : decode cX0_hasSpace 15 = .ok (.bipush 14, 2) := by decide +kernel
theorem dX0_hasSpace_17 : decode cX0_hasSpace 17 = .ok (.if_icmp .gt 7, 3) := by decide +kernel
theorem dX0_hasSpace_20 : decode cX0_hasSpace 20 = .ok (.iconst 1, 1) := by decide +kernel
theorem dX0_hasSpace_21 : decode cX0_hasSpace 21 = .ok (.goto 4, 3) := by decide +kernel
theorem dX0_hasSpace_24 : decode cX0_hasSpace 24 = .ok (.iconst 0, 1) := by decide +kernel
theorem dX0_hasSpace_25 : decode cX0_hasSpace 25 = .ok (.ireturn, 1) := by decide +kernel
theorem dX0_open_0 : decode cX0_open 0 = .ok (.aload_n 0, 1) := by decide +kernel
theorem dX0_open_1 : decode cX0_open 1 = .ok (.getfield 43, 3) := by decide +kernel
theorem dX0_open_4 : decode cX0_open 4 = .ok (.bipush 8, 2) := by decide +kernel
theorem dX0_open_6 : decode cX0_open 6 = .ok (.if_icmp .ge 51, 3) := by decide +kernel
theorem dX0_open_9 : decode cX0_open 9 = .ok (.aload_n 0, 1) := by decide +kernel
theorem dX0_open_10 : decode cX0_open 10 = .ok (.getfield 9, 3) := by decide +kernel
theorem dX0_open_13 : decode cX0_open 13 = .ok (.aload_n 0, 1) := by decide +kernel
theorem dX0_open_14 : decode cX0_open 14 = .ok (.getfield 43, 3) := by decide +kernel
theorem dX0_open_17 : decode cX0_open 17 = .ok (.aload_n 0, 1) := by decide +kernel
theorem dX0_open_18 : decode cX0_open 18 = .ok (.getfield 47, 3) := by decide +kernel
theorem dX0_open_21 : decode cX0_open 21 = .ok (.iastore, 1) := by decide +kernel
theorem dX0_open_22 : decode cX0_open 22 = .ok (.aload_n 0, 1) := by decide +kernel
theorem dX0_open_23 : decode cX0_open 23 = .ok (.getfield 15, 3) := by decide +kernel
theorem dX0_open_26 : decode cX0_open 26 = .ok (.aload_n 0, 1) := by decide +kernel
theorem dX0_open_27 : decode cX0_open 27 = .ok (.getfield 43, 3) := by decide +kernel
theorem dX0_open_30 : decode cX0_open 30 = .ok (.iconst 0, 1) := by decide +kernel
theorem dX0_open_31 : decode cX0_open 31 = .ok (.iastore, 1) := by decide +kernel
theorem dX0_open_32 : decode cX0_open 32 = .ok (.aload_n 0, 1) := by decide +kernel
theorem dX0_open_33 : decode cX0_open 33 = .ok (.getfield 18, 3) := by decide +kernel
theorem dX0_open_36 : decode cX0_open 36 = .ok (.aload_n 0, 1) := by decide +kernel
theorem dX0_open_37 : decode cX0_open 37 = .ok (.getfield 43, 3) := by decide +kernel
theorem dX0_open_40 : decode cX0_open 40 = .ok (.iload_n 2, 1) := by decide +kernel
theorem dX0_open_41 : decode cX0_open 41 = .ok (.iastore, 1) := by decide +kernel
theorem dX0_open_42 : decode cX0_open 42 = .ok (.aload_n 0, 1) := by decide +kernel
theorem dX0_open_43 : decode cX0_open 43 = .ok (.iload_n 1, 1) := by decide +kernel
theorem dX0_open_44 : decode cX0_open 44 = .ok (.putfield 50, 3) := by decide +kernel
theorem dX0_open_47 : decode cX0_open 47 = .ok (.aload_n 0, 1) := by decide +kernel
theorem dX0_open_48 : decode cX0_open 48 = .ok (.dup, 1) := by decide +kernel
theorem dX0_open_49 : decode cX0_open 49 = .ok (.getfield 43, 3) := by decide +kernel
theorem dX0_open_52 : decode cX0_open 52 = .ok (.iconst 1, 1) := by decide +kernel
theorem dX0_open_53 : decode cX0_open 53 = .ok (.iadd, 1) := by decide +kernel
theorem dX0_open_54 : decode cX0_open 54 = .ok (.putfield 43, 3) := by decide +kernel
theorem dX0_open_57 : decode cX0_open 57 = .ok (.return_, 1) := by decide +kernel
theorem dX0_openCopy_0 : decode cX0_openCopy 0 = .ok (.aload_n 0, 1) := by decide +kernel
theorem dX0_openCopy_1 : decode cX0_openCopy 1 = .ok (.iload_n 1, 1) := by decide +kernel
theorem dX0_openCopy_2 : decode cX0_openCopy 2 = .ok (.invokevirtual 57, 3) := by decide +kernel
theorem dX0_openCopy_5 : decode cX0_openCopy 5 = .ok (.istore_n 2, 1) := by decide +kernel
theorem dX0_openCopy_6 : decode cX0_openCopy 6 = .ok (.aload_n 0, 1) := by decide +kernel
theorem dX0_openCopy_7 : decode cX0_openCopy 7 = .ok (.aload_n 0, 1) := by decide +kernel
theorem dX0_openCopy_8 : decode cX0_openCopy 8 = .ok (.iload_n 2, 1) := by decide +kernel
theorem dX0_openCopy_9 : decode cX0_openCopy 9 = .ok (.invokevirtual 61, 3) := by decide +kernel
theorem dX0_openCopy_12 : decode cX0_openCopy 12 = .ok (.ifCond .eq 12, 3) := by decide +kernel
theorem dX0_openCopy_15 : decode cX0_openCopy 15 = .ok (.aload_n 0, 1) := by decide +kernel
theorem dX0_openCopy_16 : decode cX0_openCopy 16 = .ok (.getfield 27, 3) := by decide +kernel
theorem dX0_openCopy_19 : decode cX0_openCopy 19 = .ok (.iload_n 2, 1) := by decide +kernel
theorem dX0_openCopy_20 : decode cX0_openCopy 20 = .ok (.iaload, 1) := by decide +kernel
theorem dX0_openCopy_21 : decode cX0_openCopy 21 = .ok (.goto 4, 3) := by decide +kernel
theorem dX0_openCopy_24 : decode cX0_openCopy 24 = .ok (.iconst 0, 1) := by decide +kernel
theorem dX0_openCopy_25 : decode cX0_openCopy 25 = .ok (.iload_n 1, 1) := by decide +kernel
theorem dX0_openCopy_26 : decode cX0_openCopy 26 = .ok (.invokevirtual 64, 3) := by decide +kernel
theorem dX0_openCopy_29 : decode cX0_openCopy 29 = .ok (.return_, 1) := by decide +kernel
theorem dX0_add_0 : decode cX0_add 0 = .ok (.aload_n 0, 1) := by decide +kernel
theorem dX0_add_1 : decode cX0_add 1 = .ok (.getfield 43, 3) := by decide +kernel
theorem dX0_add_4 : decode cX0_add 4 = .ok (.iconst 1, 1) := by decide +kernel
theorem dX0_add_5 : decode cX0_add 5 = .ok (.isub, 1) := by decide +kernel
theorem dX0_add_6 : decode cX0_add 6 = .ok (.istore 6, 2) := by decide +kernel
theorem dX0_add_8 : decode cX0_add 8 = .ok (.aload_n 0, 1) := by decide +kernel
theorem dX0_add_9 : decode cX0_add 9 = .ok (.iload 6, 2) := by decide +kernel
theorem dX0_add_11 : decode cX0_add 11 = .ok (.invokevirtual 53, 3) := by decide +kernel
theorem dX0_add_14 : decode cX0_add 14 = .ok (.ifCond .eq 115, 3) := by decide +kernel
theorem dX0_add_17 : decode cX0_add 17 = .ok (.aload_n 0, 1) := by decide +kernel
theorem dX0_add_18 : decode cX0_add 18 = .ok (.getfield 47, 3) := by decide +kernel
theorem dX0_add_21 : decode cX0_add 21 = .ok (.ifCond .lt 108, 3) := by decide +kernel
theorem dX0_add_24 : decode cX0_add 24 = .ok (.aload_n 0, 1) := by decide +kernel
theorem dX0_add_25 : decode cX0_add 25 = .ok (.getfield 47, 3) := by decide +kernel
theorem dX0_add_28 : decode cX0_add 28 = .ok (.bipush 14, 2) := by decide +kernel
theorem dX0_add_30 : decode cX0_add 30 = .ok (.if_icmp .ge 99, 3) := by decide +kernel
theorem dX0_add_33 : decode cX0_add 33 = .ok (.aload_n 0, 1) := by decide +kernel
theorem dX0_add_34 : decode cX0_add 34 = .ok (.getfield 21, 3) := by decide +kernel
theorem dX0_add_37 : decode cX0_add 37 = .ok (.aload_n 0, 1) := by decide +kernel
theorem dX0_add_38 : decode cX0_add 38 = .ok (.getfield 47, 3) := by decide +kernel
theorem dX0_add_41 : decode cX0_add 41 = .ok (.iload 6, 2) := by decide +kernel
theorem dX0_add_43 : decode cX0_add 43 = .ok (.iastore, 1) := by decide +kernel
theorem dX0_add_44 : decode cX0_add 44 = .ok (.aload_n 0, 1) := by decide +kernel
theorem dX0_add_45 : decode cX0_add 45 = .ok (.getfield 24, 3) := by decide +kernel
theorem dX0_add_48 : decode cX0_add 48 = .ok (.aload_n 0, 1) := by decide +kernel
theorem dX0_add_49 : decode cX0_add 49 = .ok (.getfield 47, 3) := by decide +kernel
theorem dX0_add_52 : decode cX0_add 52 = .ok (.iload_n 1, 1) := by decide +kernel
theorem dX0_add_53 : decode cX0_add 53 = .ok (.iastore, 1) := by decide +kernel
theorem dX0_add_54 : decode cX0_add 54 = .ok (.aload_n 0, 1) := by decide +kernel
theorem dX0_add_55 : decode cX0_add 55 = .ok (.getfield 27, 3) := by decide +kernel
theorem dX0_add_58 : decode cX0_add 58 = .ok (.aload_n 0, 1) := by decide +kernel
theorem dX0_add_59 : decode cX0_add 59 = .ok (.getfield 47, 3) := by decide +kernel
theorem dX0_add_62 : decode cX0_add 62 = .ok (.aload_n 0, 1) := by decide +kernel
theorem dX0_add_63 : decode cX0_add 63 = .ok (.getfield 50, 3) := by decide +kernel
theorem dX0_add_66 : decode cX0_add 66 = .ok (.iastore, 1) := by decide +kernel
theorem dX0_add_67 : decode cX0_add 67 = .ok (.aload_n 0, 1) := by decide +kernel
theorem dX0_add_68 : decode cX0_add 68 = .ok (.getfield 30, 3) := by decide +kernel
theorem dX0_add_71 : decode cX0_add 71 = .ok (.aload_n 0, 1) := by decide +kernel
theorem dX0_add_72 : decode cX0_add 72 = .ok (.getfield 47, 3) := by decide +kernel
theorem dX0_add_75 : decode cX0_add 75 = .ok (.iload_n 2, 1) := by decide +kernel
theorem dX0_add_76 : decode cX0_add 76 = .ok (.iastore, 1) := by decide +kernel
theorem dX0_add_77 : decode cX0_add 77 = .ok (.aload_n 0, 1) := by decide +kernel
theorem dX0_add_78 : decode cX0_add 78 = .ok (.getfield 33, 3) := by decide +kernel
theorem dX0_add_81 : decode cX0_add 81 = .ok (.aload_n 0, 1) := by decide +kernel
theorem dX0_add_82 : decode cX0_add 82 = .ok (.getfield 47, 3) := by decide +kernel
theorem dX0_add_85 : decode cX0_add 85 = .ok (.iload 5, 2) := by decide +kernel
theorem dX0_add_87 : decode cX0_add 87 = .ok (.iastore, 1) := by decide +kernel
theorem dX0_add_88 : decode cX0_add 88 = .ok (.aload_n 0, 1) := by decide +kernel
theorem dX0_add_89 : decode cX0_add 89 = .ok (.getfield 39, 3) := by decide +kernel
theorem dX0_add_92 : decode cX0_add 92 = .ok (.aload_n 0, 1) := by decide +kernel
theorem dX0_add_93 : decode cX0_add 93 = .ok (.getfield 47, 3) := by decide +kernel
theorem dX0_add_96 : decode cX0_add 96 = .ok (.lload_n 3, 1) := by decide +kernel
theorem dX0_add_97 : decode cX0_add 97 = .ok (.lastore, 1) := by decide +kernel
theorem dX0_add_98 : decode cX0_add 98 = .ok (.aload_n 0, 1) := by decide +kernel
theorem dX0_add_99 : decode cX0_add 99 = .ok (.getfield 36, 3) := by decide +kernel
theorem dX0_add_102 : decode cX0_add 102 = .ok (.aload_n 0, 1) := by decide +kernel
theorem dX0_add_103 : decode cX0_add 103 = .ok (.getfield 47, 3) := by decide +kernel
theorem dX0_add_106 : decode cX0_add 106 = .ok (.iconst (-1), 1) := by decide +kernel
theorem dX0_add_107 : decode cX0_add 107 = .ok (.iastore, 1) := by decide +kernel
theorem dX0_add_108 : decode cX0_add 108 = .ok (.aload_n 0, 1) := by decide +kernel
theorem dX0_add_109 : decode cX0_add 109 = .ok (.getfield 15, 3) := by decide +kernel
theorem dX0_add_112 : decode cX0_add 112 = .ok (.iload 6, 2) := by decide +kernel
theorem dX0_add_114 : decode cX0_add 114 = .ok (.dup2, 1) := by decide +kernel
theorem dX0_add_115 : decode cX0_add 115 = .ok (.iaload, 1) := by decide +kernel
theorem dX0_add_116 : decode cX0_add 116 = .ok (.iconst 1, 1) := by decide +kernel
theorem dX0_add_117 : decode cX0_add 117 = .ok (.iadd, 1) := by decide +kernel
theorem dX0_add_118 : decode cX0_add 118 = .ok (.iastore, 1) := by decide +kernel
theorem dX0_add_119 : decode cX0_add 119 = .ok (.aload_n 0, 1) := by decide +kernel
theorem dX0_add_120 : decode cX0_add 120 = .ok (.dup, 1) := by decide +kernel
theorem dX0_add_121 : decode cX0_add 121 = .ok (.getfield 47, 3) := by decide +kernel
theorem dX0_add_124 : decode cX0_add 124 = .ok (.iconst 1, 1) := by decide +kernel
theorem dX0_add_125 : decode cX0_add 125 = .ok (.iadd, 1) := by decide +kernel
theorem dX0_add_126 : decode cX0_add 126 = .ok (.putfield 47, 3) := by decide +kernel
theorem dX0_add_129 : decode cX0_add 129 = .ok (.return_, 1) := by decide +kernel
theorem dX0_addAgain_0 : decode cX0_addAgain 0 = .ok (.aload_n 0, 1) := by decide +kernel
theorem dX0_addAgain_1 : decode cX0_addAgain 1 = .ok (.iload_n 1, 1) := by decide +kernel
theorem dX0_addAgain_2 : decode cX0_addAgain 2 = .ok (.invokevirtual 61, 3) := by decide +kernel
theorem dX0_addAgain_5 : decode cX0_addAgain 5 = .ok (.ifCond .eq 47, 3) := by decide +kernel
theorem dX0_addAgain_8 : decode cX0_addAgain 8 = .ok (.aload_n 0, 1) := by decide +kernel
theorem dX0_addAgain_9 : decode cX0_addAgain 9 = .ok (.getfield 47, 3) := by decide +kernel
theorem dX0_addAgain_12 : decode cX0_addAgain 12 = .ok (.bipush 14, 2) := by decide +kernel
theorem dX0_addAgain_14 : decode cX0_addAgain 14 = .ok (.if_icmp .ge 38, 3) := by decide +kernel
theorem dX0_addAgain_17 : decode cX0_addAgain 17 = .ok (.aload_n 0, 1) := by decide +kernel
theorem dX0_addAgain_18 : decode cX0_addAgain 18 = .ok (.aload_n 0, 1) := by decide +kernel
theorem dX0_addAgain_19 : decode cX0_addAgain 19 = .ok (.getfield 24, 3) := by decide +kernel
theorem dX0_addAgain_22 : decode cX0_addAgain 22 = .ok (.iload_n 1, 1) := by decide +kernel
theorem dX0_addAgain_23 : decode cX0_addAgain 23 = .ok (.iaload, 1) := by decide +kernel
theorem dX0_addAgain_24 : decode cX0_addAgain 24 = .ok (.aload_n 0, 1) := by decide +kernel
theorem dX0_addAgain_25 : decode cX0_addAgain 25 = .ok (.getfield 30, 3) := by decide +kernel
theorem dX0_addAgain_28 : decode cX0_addAgain 28 = .ok (.iload_n 1, 1) := by decide +kernel
theorem dX0_addAgain_29 : decode cX0_addAgain 29 = .ok (.iaload, 1) := by decide +kernel
theorem dX0_addAgain_30 : decode cX0_addAgain 30 = .ok (.lload_n 2, 1) := by decide +kernel
theorem dX0_addAgain_31 : decode cX0_addAgain 31 = .ok (.aload_n 0, 1) := by decide +kernel
theorem dX0_addAgain_32 : decode cX0_addAgain 32 = .ok (.getfield 33, 3) := by decide +kernel
theorem dX0_addAgain_35 : decode cX0_addAgain 35 = .ok (.iload_n 1, 1) := by decide +kernel
theorem dX0_addAgain_36 : decode cX0_addAgain 36 = .ok (.iaload, 1) := by decide +kernel
theorem dX0_addAgain_37 : decode cX0_addAgain 37 = .ok (.invokevirtual 68, 3) := by decide +kernel
theorem dX0_addAgain_40 : decode cX0_addAgain 40 = .ok (.aload_n 0, 1) := by decide +kernel
theorem dX0_addAgain_41 : decode cX0_addAgain 41 = .ok (.getfield 36, 3) := by decide +kernel
theorem dX0_addAgain_44 : decode cX0_addAgain 44 = .ok (.aload_n 0, 1) := by decide +kernel
theorem dX0_addAgain_45 : decode cX0_addAgain 45 = .ok (.getfield 47, 3) := by decide +kernel
theorem dX0_addAgain_48 : decode cX0_addAgain 48 = .ok (.iconst 1, 1) := by decide +kernel
theorem dX0_addAgain_49 : decode cX0_addAgain 49 = .ok (.isub, 1) := by decide +kernel
theorem dX0_addAgain_50 : decode cX0_addAgain 50 = .ok (.iload_n 1, 1) := by decide +kernel
theorem dX0_addAgain_51 : decode cX0_addAgain 51 = .ok (.iastore, 1) := by decide +kernel
theorem dX0_addAgain_52 : decode cX0_addAgain 52 = .ok (.return_, 1) := by decide +kernel
theorem dX0_removeLatest_0 : decode cX0_removeLatest 0 = .ok (.aload_n 0, 1) := by decide +kernel
theorem dX0_removeLatest_1 : decode cX0_removeLatest 1 = .ok (.getfield 43, 3) := by decide +kernel
theorem dX0_removeLatest_4 : decode cX0_removeLatest 4 = .ok (.iconst 1, 1) := by decide +kernel
theorem dX0_removeLatest_5 : decode cX0_removeLatest 5 = .ok (.isub, 1) := by decide +kernel
theorem dX0_removeLatest_6 : decode cX0_removeLatest 6 = .ok (.istore_n 1, 1) := by decide +kernel
theorem dX0_removeLatest_7 : decode cX0_removeLatest 7 = .ok (.aload_n 0, 1) := by decide +kernel
theorem dX0_removeLatest_8 : decode cX0_removeLatest 8 = .ok (.iload_n 1, 1) := by decide +kernel
theorem dX0_removeLatest_9 : decode cX0_removeLatest 9 = .ok (.invokevirtual 53, 3) := by decide +kernel
theorem dX0_removeLatest_12 : decode cX0_removeLatest 12 = .ok (.ifCond .eq 18, 3) := by decide +kernel
theorem dX0_removeLatest_15 : decode cX0_removeLatest 15 = .ok (.aload_n 0, 1) := by decide +kernel
theorem dX0_removeLatest_16 : decode cX0_removeLatest 16 = .ok (.aload_n 0, 1) := by decide +kernel
theorem dX0_removeLatest_17 : decode cX0_removeLatest 17 = .ok (.getfield 9, 3) := by decide +kernel
theorem dX0_removeLatest_20 : decode cX0_removeLatest 20 = .ok (.iload_n 1, 1) := by decide +kernel
theorem dX0_removeLatest_21 : decode cX0_removeLatest 21 = .ok (.iaload, 1) := by decide +kernel
theorem dX0_removeLatest_22 : decode cX0_removeLatest 22 = .ok (.putfield 47, 3) := by decide +kernel
theorem dX0_removeLatest_25 : decode cX0_removeLatest 25 = .ok (.aload_n 0, 1) := by decide +kernel
theorem dX0_removeLatest_26 : decode cX0_removeLatest 26 = .ok (.iload_n 1, 1) := by decide +kernel
theorem dX0_removeLatest_27 : decode cX0_removeLatest 27 = .ok (.putfield 43, 3) := by decide +kernel
theorem dX0_removeLatest_30 : decode cX0_removeLatest 30 = .ok (.return_, 1) := by decide +kernel
theorem dX0_allRecords_0 : decode cX0_allRecords 0 = .ok (.iconst 1, 1) := by decide +kernel
theorem dX0_allRecords_1 : decode cX0_allRecords 1 = .ok (.aload_n 0, 1) := by decide +kernel
theorem dX0_allRecords_2 : decode cX0_allRecords 2 = .ok (.getfield 43, 3) := by decide +kernel
theorem dX0_allRecords_5 : decode cX0_allRecords 5 = .ok (.ishl, 1) := by decide +kernel
theorem dX0_allRecords_6 : decode cX0_allRecords 6 = .ok (.iconst 1, 1) := by decide +kernel
theorem dX0_allRecords_7 : decode cX0_allRecords 7 = .ok (.isub, 1) := by decide +kernel
theorem dX0_allRecords_8 : decode cX0_allRecords 8 = .ok (.ireturn, 1) := by decide +kernel
theorem dX0_bitOf_0 : decode cX0_bitOf 0 = .ok (.aload_n 0, 1) := by decide +kernel
theorem dX0_bitOf_1 : decode cX0_bitOf 1 = .ok (.iload_n 1, 1) := by decide +kernel
theorem dX0_bitOf_2 : decode cX0_bitOf 2 = .ok (.invokevirtual 61, 3) := by decide +kernel
theorem dX0_bitOf_5 : decode cX0_bitOf 5 = .ok (.ifCond .eq 14, 3) := by decide +kernel
theorem dX0_bitOf_8 : decode cX0_bitOf 8 = .ok (.iconst 1, 1) := by decide +kernel
theorem dX0_bitOf_9 : decode cX0_bitOf 9 = .ok (.aload_n 0, 1) := by decide +kernel
theorem dX0_bitOf_10 : decode cX0_bitOf 10 = .ok (.getfield 21, 3) := by decide +kernel
theorem dX0_bitOf_13 : decode cX0_bitOf 13 = .ok (.iload_n 1, 1) := by decide +kernel
theorem dX0_bitOf_14 : decode cX0_bitOf 14 = .ok (.iaload, 1) := by decide +kernel
theorem dX0_bitOf_15 : decode cX0_bitOf 15 = .ok (.ishl, 1) := by decide +kernel
theorem dX0_bitOf_16 : decode cX0_bitOf 16 = .ok (.goto 4, 3) := by decide +kernel
theorem dX0_bitOf_19 : decode cX0_bitOf 19 = .ok (.iconst 0, 1) := by decide +kernel
theorem dX0_bitOf_20 : decode cX0_bitOf 20 = .ok (.ireturn, 1) := by decide +kernel
theorem dX0_holdsOriginals_0 : decode cX0_holdsOriginals 0 = .ok (.iconst 0, 1) := by decide +kernel
theorem dX0_holdsOriginals_1 : decode cX0_holdsOriginals 1 = .ok (.istore_n 2, 1) := by decide +kernel
theorem dX0_holdsOriginals_2 : decode cX0_holdsOriginals 2 = .ok (.iload_n 2, 1) := by decide +kernel
theorem dX0_holdsOriginals_3 : decode cX0_holdsOriginals 3 = .ok (.aload_n 0, 1) := by decide +kernel
theorem dX0_holdsOriginals_4 : decode cX0_holdsOriginals 4 = .ok (.getfield 43, 3) := by decide +kernel
theorem dX0_holdsOriginals_7 : decode cX0_holdsOriginals 7 = .ok (.if_icmp .ge 58, 3) := by decide +kernel
theorem dX0_holdsOriginals_10 : decode cX0_holdsOriginals 10 = .ok (.iload_n 2, 1) := by decide +kernel
theorem dX0_holdsOriginals_11 : decode cX0_holdsOriginals 11 = .ok (.bipush 8, 2) := by decide +kernel
theorem dX0_holdsOriginals_13 : decode cX0_holdsOriginals 13 = .ok (.if_icmp .ge 52, 3) := by decide +kernel
theorem dX0_holdsOriginals_16 : decode cX0_holdsOriginals 16 = .ok (.iload_n 1, 1) := by decide +kernel
theorem dX0_holdsOriginals_17 : decode cX0_holdsOriginals 17 = .ok (.iload_n 2, 1) := by decide +kernel
theorem dX0_holdsOriginals_18 : decode cX0_holdsOriginals 18 = .ok (.ishr, 1) := by decide +kernel
theorem dX0_holdsOriginals_19 : decode cX0_holdsOriginals 19 = .ok (.iconst 1, 1) := by decide +kernel
theorem dX0_holdsOriginals_20 : decode cX0_holdsOriginals 20 = .ok (.iand, 1) := by decide +kernel
theorem dX0_holdsOriginals_21 : decode cX0_holdsOriginals 21 = .ok (.ifCond .eq 17, 3) := by decide +kernel
theorem dX0_holdsOriginals_24 : decode cX0_holdsOriginals 24 = .ok (.aload_n 0, 1) := by decide +kernel
theorem dX0_holdsOriginals_25 : decode cX0_holdsOriginals 25 = .ok (.getfield 18, 3) := by decide +kernel
theorem dX0_holdsOriginals_28 : decode cX0_holdsOriginals 28 = .ok (.iload_n 2, 1) := by decide +kernel
theorem dX0_holdsOriginals_29 : decode cX0_holdsOriginals 29 = .ok (.iaload, 1) := by decide +kernel
theorem dX0_holdsOriginals_30 : decode cX0_holdsOriginals 30 = .ok (.iconst (-1), 1) := by decide +kernel
theorem dX0_holdsOriginals_31 : decode cX0_holdsOriginals 31 = .ok (.if_icmp .eq 7, 3) := by decide +kernel
theorem dX0_holdsOriginals_34 : decode cX0_holdsOriginals 34 = .ok (.iconst 1, 1) := by decide +kernel
theorem dX0_holdsOriginals_35 : decode cX0_holdsOriginals 35 = .ok (.goto 4, 3) := by decide +kernel
theorem dX0_holdsOriginals_38 : decode cX0_holdsOriginals 38 = .ok (.iconst 0, 1) := by decide +kernel
theorem dX0_holdsOriginals_39 : decode cX0_holdsOriginals 39 = .ok (.istore_n 3, 1) := by decide +kernel
theorem dX0_holdsOriginals_40 : decode cX0_holdsOriginals 40 = .ok (.iload_n 3, 1) := by decide +kernel
theorem dX0_holdsOriginals_41 : decode cX0_holdsOriginals 41 = .ok (.ifCond .eq 18, 3) := by decide +kernel
theorem dX0_holdsOriginals_44 : decode cX0_holdsOriginals 44 = .ok (.iload_n 1, 1) := by decide +kernel
theorem dX0_holdsOriginals_45 : decode cX0_holdsOriginals 45 = .ok (.aload_n 0, 1) := by decide +kernel
theorem dX0_holdsOriginals_46 : decode cX0_holdsOriginals 46 = .ok (.getfield 18, 3) := by decide +kernel
theorem dX0_holdsOriginals_49 : decode cX0_holdsOriginals 49 = .ok (.iload_n 2, 1) := by decide +kernel
theorem dX0_holdsOriginals_50 : decode cX0_holdsOriginals 50 = .ok (.iaload, 1) := by decide +kernel
theorem dX0_holdsOriginals_51 : decode cX0_holdsOriginals 51 = .ok (.ishr, 1) := by decide +kernel
theorem dX0_holdsOriginals_52 : decode cX0_holdsOriginals 52 = .ok (.iconst 1, 1) := by decide +kernel
theorem dX0_holdsOriginals_53 : decode cX0_holdsOriginals 53 = .ok (.iand, 1) := by decide +kernel
theorem dX0_holdsOriginals_54 : decode cX0_holdsOriginals 54 = .ok (.ifCond .ne 5, 3) := by decide +kernel
theorem dX0_holdsOriginals_57 : decode cX0_holdsOriginals 57 = .ok (.iconst 0, 1) := by decide +kernel
theorem dX0_holdsOriginals_58 : decode cX0_holdsOriginals 58 = .ok (.ireturn, 1) := by decide +kernel
theorem dX0_holdsOriginals_59 : decode cX0_holdsOriginals 59 = .ok (.iinc 2 1, 3) := by decide +kernel
theorem dX0_holdsOriginals_62 : decode cX0_holdsOriginals 62 = .ok (.goto (-60), 3) := by decide +kernel
theorem dX0_holdsOriginals_65 : decode cX0_holdsOriginals 65 = .ok (.iconst 1, 1) := by decide +kernel
theorem dX0_holdsOriginals_66 : decode cX0_holdsOriginals 66 = .ok (.ireturn, 1) := by decide +kernel
theorem dX0_isBirth_0 : decode cX0_isBirth 0 = .ok (.aload_n 0, 1) := by decide +kernel
theorem dX0_isBirth_1 : decode cX0_isBirth 1 = .ok (.iload_n 1, 1) := by decide +kernel
theorem dX0_isBirth_2 : decode cX0_isBirth 2 = .ok (.invokevirtual 57, 3) := by decide +kernel
theorem dX0_isBirth_5 : decode cX0_isBirth 5 = .ok (.istore_n 2, 1) := by decide +kernel
theorem dX0_isBirth_6 : decode cX0_isBirth 6 = .ok (.aload_n 0, 1) := by decide +kernel
theorem dX0_isBirth_7 : decode cX0_isBirth 7 = .ok (.iload_n 1, 1) := by decide +kernel
theorem dX0_isBirth_8 : decode cX0_isBirth 8 = .ok (.invokevirtual 72, 3) := by decide +kernel
theorem dX0_isBirth_11 : decode cX0_isBirth 11 = .ok (.ifCond .eq 33, 3) := by decide +kernel
theorem dX0_isBirth_14 : decode cX0_isBirth 14 = .ok (.aload_n 0, 1) := by decide +kernel
theorem dX0_isBirth_15 : decode cX0_isBirth 15 = .ok (.iload_n 1, 1) := by decide +kernel
theorem dX0_isBirth_16 : decode cX0_isBirth 16 = .ok (.invokevirtual 75, 3) := by decide +kernel
theorem dX0_isBirth_19 : decode cX0_isBirth 19 = .ok (.iconst 3, 1) := by decide +kernel
theorem dX0_isBirth_20 : decode cX0_isBirth 20 = .ok (.if_icmp .ne 24, 3) := by decide +kernel
theorem dX0_isBirth_23 : decode cX0_isBirth 23 = .ok (.aload_n 0, 1) := by decide +kernel
theorem dX0_isBirth_24 : decode cX0_isBirth 24 = .ok (.iload_n 2, 1) := by decide +kernel
theorem dX0_isBirth_25 : decode cX0_isBirth 25 = .ok (.invokevirtual 61, 3) := by decide +kernel
theorem dX0_isBirth_28 : decode cX0_isBirth 28 = .ok (.ifCond .eq 16, 3) := by decide +kernel
theorem dX0_isBirth_31 : decode cX0_isBirth 31 = .ok (.aload_n 0, 1) := by decide +kernel
theorem dX0_isBirth_32 : decode cX0_isBirth 32 = .ok (.getfield 24, 3) := by decide +kernel
theorem dX0_isBirth_35 : decode cX0_isBirth 35 = .ok (.iload_n 2, 1) := by decide +kernel
theorem dX0_isBirth_36 : decode cX0_isBirth 36 = .ok (.iaload, 1) := by decide +kernel
theorem dX0_isBirth_37 : decode cX0_isBirth 37 = .ok (.ifCond .ne 7, 3) := by decide +kernel
theorem dX0_isBirth_40 : decode cX0_isBirth 40 = .ok (.iconst 1, 1) := by decide +kernel
theorem dX0_isBirth_41 : decode cX0_isBirth 41 = .ok (.goto 4, 3) := by decide +kernel
theorem dX0_isBirth_44 : decode cX0_isBirth 44 = .ok (.iconst 0, 1) := by decide +kernel
theorem dX0_isBirth_45 : decode cX0_isBirth 45 = .ok (.ireturn, 1) := by decide +kernel
theorem dX1_init_0 : decode cX1_init 0 = .ok (.aload_n 0, 1) := by decide +kernel
theorem dX1_init_1 : decode cX1_init 1 = .ok (.invokespecial 5, 3) := by decide +kernel
theorem dX1_init_4 : decode cX1_init 4 = .ok (.aload_n 0, 1) := by decide +kernel
theorem dX1_init_5 : decode cX1_init 5 = .ok (.sipush 1024, 3) := by decide +kernel
theorem dX1_init_8 : decode cX1_init 8 = .ok (.newarray .boolean, 2) := by decide +kernel
theorem dX1_init_10 : decode cX1_init 10 = .ok (.putfield 11, 3) := by decide +kernel
theorem dX1_init_13 : decode cX1_init 13 = .ok (.aload_n 0, 1) := by decide +kernel
theorem dX1_init_14 : decode cX1_init 14 = .ok (.bipush 9, 2) := by decide +kernel
theorem dX1_init_16 : decode cX1_init 16 = .ok (.newarray .int, 2) := by decide +kernel
theorem dX1_init_18 : decode cX1_init 18 = .ok (.putfield 15, 3) := by decide +kernel
theorem dX1_init_21 : decode cX1_init 21 = .ok (.return_, 1) := by decide +kernel
theorem dX1_canBe_0 : decode cX1_canBe 0 = .ok (.iload_n 2, 1) := by decide +kernel
theorem dX1_canBe_1 : decode cX1_canBe 1 = .ok (.ifCond .ne 8, 3) := by decide +kernel
theorem dX1_canBe_4 : decode cX1_canBe 4 = .ok (.iload_n 0, 1) := by decide +kernel
theorem dX1_canBe_5 : decode cX1_canBe 5 = .ok (.iload_n 1, 1) := by decide +kernel
theorem dX1_canBe_6 : decode cX1_canBe 6 = .ok (.if_icmp .eq 7, 3) := by decide +kernel
theorem dX1_canBe_9 : decode cX1_canBe 9 = .ok (.iconst 1, 1) := by decide +kernel
theorem dX1_canBe_10 : decode cX1_canBe 10 = .ok (.goto 4, 3) := by decide +kernel
theorem dX1_canBe_13 : decode cX1_canBe 13 = .ok (.iconst 0, 1) := by decide +kernel
theorem dX1_canBe_14 : decode cX1_canBe 14 = .ok (.ireturn, 1) := by decide +kernel
theorem dX1_setAlike_0 : decode cX1_setAlike 0 = .ok (.aload_n 0, 1) := by decide +kernel
theorem dX1_setAlike_1 : decode cX1_setAlike 1 = .ok (.getfield 11, 3) := by decide +kernel
theorem dX1_setAlike_4 : decode cX1_setAlike 4 = .ok (.iload_n 1, 1) := by decide +kernel
theorem dX1_setAlike_5 : decode cX1_setAlike 5 = .ok (.bipush 31, 2) := by decide +kernel
theorem dX1_setAlike_7 : decode cX1_setAlike 7 = .ok (.iand, 1) := by decide +kernel
theorem dX1_setAlike_8 : decode cX1_setAlike 8 = .ok (.bipush 32, 2) := by decide +kernel
theorem dX1_setAlike_10 : decode cX1_setAlike 10 = .ok (.imul, 1) := by decide +kernel
theorem dX1_setAlike_11 : decode cX1_setAlike 11 = .ok (.iload_n 2, 1) := by decide +kernel
theorem dX1_setAlike_12 : decode cX1_setAlike 12 = .ok (.bipush 31, 2) := by decide +kernel
theorem dX1_setAlike_14 : decode cX1_setAlike 14 = .ok (.iand, 1) := by decide +kernel
theorem dX1_setAlike_15 : decode cX1_setAlike 15 = .ok (.iadd, 1) := by decide +kernel
theorem dX1_setAlike_16 : decode cX1_setAlike 16 = .ok (.iload_n 3, 1) := by decide +kernel
theorem dX1_setAlike_17 : decode cX1_setAlike 17 = .ok (.bastore, 1) := by decide +kernel
theorem dX1_setAlike_18 : decode cX1_setAlike 18 = .ok (.aload_n 0, 1) := by decide +kernel
theorem dX1_setAlike_19 : decode cX1_setAlike 19 = .ok (.getfield 11, 3) := by decide +kernel
theorem dX1_setAlike_22 : decode cX1_setAlike 22 = .ok (.iload_n 2, 1) := by decide +kernel
theorem dX1_setAlike_23 : decode cX1_setAlike 23 = .ok (.bipush 31, 2) := by decide +kernel
theorem dX1_setAlike_25 : decode cX1_setAlike 25 = .ok (.iand, 1) := by decide +kernel
theorem dX1_setAlike_26 : decode cX1_setAlike 26 = .ok (.bipush 32, 2) := by decide +kernel
theorem dX1_setAlike_28 : decode cX1_setAlike 28 = .ok (.imul, 1) := by decide +kernel
theorem dX1_setAlike_29 : decode cX1_setAlike 29 = .ok (.iload_n 1, 1) := by decide +kernel
theorem dX1_setAlike_30 : decode cX1_setAlike 30 = .ok (.bipush 31, 2) := by decide +kernel
theorem dX1_setAlike_32 : decode cX1_setAlike 32 = .ok (.iand, 1) := by decide +kernel
theorem dX1_setAlike_33 : decode cX1_setAlike 33 = .ok (.iadd, 1) := by decide +kernel
theorem dX1_setAlike_34 : decode cX1_setAlike 34 = .ok (.iload_n 3, 1) := by decide +kernel
theorem dX1_setAlike_35 : decode cX1_setAlike 35 = .ok (.bastore, 1) := by decide +kernel
theorem dX1_setAlike_36 : decode cX1_setAlike 36 = .ok (.return_, 1) := by decide +kernel
theorem dX1_soundAlike_0 : decode cX1_soundAlike 0 = .ok (.iload_n 1, 1) := by decide +kernel
theorem dX1_soundAlike_1 : decode cX1_soundAlike 1 = .ok (.iload_n 2, 1) := by decide +kernel
theorem dX1_soundAlike_2 : decode cX1_soundAlike 2 = .ok (.if_icmp .eq 23, 3) := by decide +kernel
theorem dX1_soundAlike_5 : decode cX1_soundAlike 5 = .ok (.aload_n 0, 1) := by decide +kernel
theorem dX1_soundAlike_6 : decode cX1_soundAlike 6 = .ok (.getfield 11, 3) := by decide +kernel
theorem dX1_soundAlike_9 : decode cX1_soundAlike 9 = .ok (.iload_n 1, 1) := by decide +kernel
theorem dX1_soundAlike_10 : decode cX1_soundAlike 10 = .ok (.bipush 31, 2) := by decide +kernel
theorem dX1_soundAlike_12 : decode cX1_soundAlike 12 = .ok (.iand, 1) := by decide +kernel
theorem dX1_soundAlike_13 : decode cX1_soundAlike 13 = .ok (.bipush 32, 2) := by decide +kernel
theorem dX1_soundAlike_15 : decode cX1_soundAlike 15 = .ok (.imul, 1) := by decide +kernel
theorem dX1_soundAlike_16 : decode cX1_soundAlike 16 = .ok (.iload_n 2, 1) := by decide +kernel
theorem dX1_soundAlike_17 : decode cX1_soundAlike 17 = .ok (.bipush 31, 2) := by decide +kernel
theorem dX1_soundAlike_19 : decode cX1_soundAlike 19 = .ok (.iand, 1) := by decide +kernel
theorem dX1_soundAlike_20 : decode cX1_soundAlike 20 = .ok (.iadd, 1) := by decide +kernel
theorem dX1_soundAlike_21 : decode cX1_soundAlike 21 = .ok (.baload, 1) := by decide +kernel
theorem dX1_soundAlike_22 : decode cX1_soundAlike 22 = .ok (.ifCond .eq 7, 3) := by decide +kernel
theorem dX1_soundAlike_25 : decode cX1_soundAlike 25 = .ok (.iconst 1, 1) := by decide +kernel
theorem dX1_soundAlike_26 : decode cX1_soundAlike 26 = .ok (.goto 4, 3) := by decide +kernel
theorem dX1_soundAlike_29 : decode cX1_soundAlike 29 = .ok (.iconst 0, 1) := by decide +kernel
theorem dX1_soundAlike_30 : decode cX1_soundAlike 30 = .ok (.ireturn, 1) := by decide +kernel
theorem dX1_distance_0 : decode cX1_distance 0 = .ok (.lload_n 1, 1) := by decide +kernel
theorem dX1_distance_1 : decode cX1_distance 1 = .ok (.invokestatic 19, 3) := by decide +kernel
theorem dX1_distance_4 : decode cX1_distance 4 = .ok (.istore 5, 2) := by decide +kernel
theorem dX1_distance_6 : decode cX1_distance 6 = .ok (.lload_n 3, 1) := by decide +kernel
theorem dX1_distance_7 : decode cX1_distance 7 = .ok (.invokestatic 19, 3) := by decide +kernel
theorem dX1_distance_10 : decode cX1_distance 10 = .ok (.bipush 8, 2) := by decide +kernel
theorem dX1_distance_12 : decode cX1_distance 12 = .ok (.invokestatic 25, 3) := by decide +kernel
theorem dX1_distance_15 : decode cX1_distance 15 = .ok (.istore 6, 2) := by decide +kernel
theorem dX1_distance_17 : decode cX1_distance 17 = .ok (.iload 5, 2) := by decide +kernel
theorem dX1_distance_19 : decode cX1_distance 19 = .ok (.ifCond .eq 8, 3) := by decide +kernel
theorem dX1_distance_22 : decode cX1_distance 22 = .ok (.iload 6, 2) := by decide +kernel
theorem dX1_distance_24 : decode cX1_distance 24 = .ok (.ifCond .ne 5, 3) := by decide +kernel
theorem dX1_distance_27 : decode cX1_distance 27 = .ok (.iconst 0, 1) := by decide +kernel
theorem dX1_distance_28 : decode cX1_distance 28 = .ok (.ireturn, 1) := by decide +kernel
theorem dX1_distance_29 : decode cX1_distance 29 = .ok (.iconst 0, 1) := by decide +kernel
theorem dX1_distance_30 : decode cX1_distance 30 = .ok (.istore 7, 2) := by decide +kernel
theorem dX1_distance_32 : decode cX1_distance 32 = .ok (.iload 7, 2) := by decide +kernel
theorem dX1_distance_34 : decode cX1_distance 34 = .ok (.iload 6, 2) := by decide +kernel
theorem dX1_distance_36 : decode cX1_distance 36 = .ok (.if_icmp .gt 18, 3) := by decide +kernel
theorem dX1_distance_39 : decode cX1_distance 39 = .ok (.aload_n 0, 1) := by decide +kernel
theorem dX1_distance_40 : decode cX1_distance 40 = .ok (.getfield 15, 3) := by decide +kernel
theorem dX1_distance_43 : decode cX1_distance 43 = .ok (.iload 7, 2) := by decide +kernel
theorem dX1_distance_45 : decode cX1_distance 45 = .ok (.iload 7, 2) := by decide +kernel
theorem dX1_distance_47 : decode cX1_distance 47 = .ok (.iastore, 1) := by decide +kernel
theorem dX1_distance_48 : decode cX1_distance 48 = .ok (.iinc 7 1, 3) := by decide +kernel
theorem dX1_distance_51 : decode cX1_distance 51 = .ok (.goto (-19), 3) := by decide +kernel
theorem dX1_distance_54 : decode cX1_distance 54 = .ok (.iconst 0, 1) := by decide +kernel
theorem dX1_distance_55 : decode cX1_distance 55 = .ok (.istore 7, 2) := by decide +kernel
theorem dX1_distance_57 : decode cX1_distance 57 = .ok (.iload 7, 2) := by decide +kernel
theorem dX1_distance_59 : decode cX1_distance 59 = .ok (.iload 5, 2) := by decide +kernel
theorem dX1_distance_61 : decode cX1_distance 61 = .ok (.if_icmp .ge 116, 3) := by decide +kernel
theorem dX1_distance_64 : decode cX1_distance 64 = .ok (.aload_n 0, 1) := by decide +kernel
theorem dX1_distance_65 : decode cX1_distance 65 = .ok (.getfield 15, 3) := by decide +kernel
theorem dX1_distance_68 : decode cX1_distance 68 = .ok (.iconst 0, 1) := by decide +kernel
theorem dX1_distance_69 : decode cX1_distance 69 = .ok (.iaload, 1) := by decide +kernel
theorem dX1_distance_70 : decode cX1_distance 70 = .ok (.istore 8, 2) := by decide +kernel
theorem dX1_distance_72 : decode cX1_distance 72 = .ok (.aload_n 0, 1) := by decide +kernel
theorem dX1_distance_73 : decode cX1_distance 73 = .ok (.getfield 15, 3) := by decide +kernel
theorem dX1_distance_76 : decode cX1_distance 76 = .ok (.iconst 0, 1) := by decide +kernel
theorem dX1_distance_77 : decode cX1_distance 77 = .ok (.iload 7, 2) := by decide +kernel
theorem dX1_distance_79 : decode cX1_distance 79 = .ok (.iconst 1, 1) := by decide +kernel
theorem dX1_distance_80 : decode cX1_distance 80 = .ok (.iadd, 1) := by decide +kernel
theorem dX1_distance_81 : decode cX1_distance 81 = .ok (.iastore, 1) := by decide +kernel
theorem dX1_distance_82 : decode cX1_distance 82 = .ok (.iconst 0, 1) := by decide +kernel
theorem dX1_distance_83 : decode cX1_distance 83 = .ok (.istore 9, 2) := by decide +kernel
theorem dX1_distance_85 : decode cX1_distance 85 = .ok (.iload 9, 2) := by decide +kernel
theorem dX1_distance_87 : decode cX1_distance 87 = .ok (.iload 6, 2) := by decide +kernel
theorem dX1_distance_89 : decode cX1_distance 89 = .ok (.if_icmp .ge 82, 3) := by decide +kernel
theorem dX1_distance_92 : decode cX1_distance 92 = .ok (.aload_n 0, 1) := by decide +kernel
theorem dX1_distance_93 : decode cX1_distance 93 = .ok (.lload_n 1, 1) := by decide +kernel
theorem dX1_distance_94 : decode cX1_distance 94 = .ok (.iload 7, 2) := by decide +kernel
theorem dX1_distance_96 : decode cX1_distance 96 = .ok (.invokestatic 31, 3) := by decide +kernel
theorem dX1_distance_99 : decode cX1_distance 99 = .ok (.lload_n 3, 1) := by decide +kernel
theorem dX1_distance_100 : decode cX1_distance 100 = .ok (.iload 9, 2) := by decide +kernel
theorem dX1_distance_102 : decode cX1_distance 102 = .ok (.invokestatic 31, 3) := by decide +kernel
theorem dX1_distance_105 : decode cX1_distance 105 = .ok (.invokevirtual 35, 3) := by decide +kernel
theorem dX1_distance_108 : decode cX1_distance 108 = .ok (.istore 10, 2) := by decide +kernel
theorem dX1_distance_110 : decode cX1_distance 110 = .ok (.iload 10, 2) := by decide +kernel
theorem dX1_distance_112 : decode cX1_distance 112 = .ok (.ifCond .eq 8, 3) := by decide +kernel
theorem dX1_distance_115 : decode cX1_distance 115 = .ok (.iload 8, 2) := by decide +kernel
theorem dX1_distance_117 : decode cX1_distance 117 = .ok (.goto 7, 3) := by decide +kernel
theorem dX1_distance_120 : decode cX1_distance 120 = .ok (.iload 8, 2) := by decide +kernel
theorem dX1_distance_122 : decode cX1_distance 122 = .ok (.iconst 1, 1) := by decide +kernel
theorem dX1_distance_123 : decode cX1_distance 123 = .ok (.iadd, 1) := by decide +kernel
theorem dX1_distance_124 : decode cX1_distance 124 = .ok (.istore 11, 2) := by decide +kernel
theorem dX1_distance_126 : decode cX1_distance 126 = .ok (.aload_n 0, 1) := by decide +kernel
theorem dX1_distance_127 : decode cX1_distance 127 = .ok (.getfield 15, 3) := by decide +kernel
theorem dX1_distance_130 : decode cX1_distance 130 = .ok (.iload 9, 2) := by decide +kernel
theorem dX1_distance_132 : decode cX1_distance 132 = .ok (.iconst 1, 1) := by decide +kernel
theorem dX1_distance_133 : decode cX1_distance 133 = .ok (.iadd, 1) := by decide +kernel
theorem dX1_distance_134 : decode cX1_distance 134 = .ok (.iaload, 1) := by decide +kernel
theorem dX1_distance_135 : decode cX1_distance 135 = .ok (.istore 8, 2) := by decide +kernel
theorem dX1_distance_137 : decode cX1_distance 137 = .ok (.aload_n 0, 1) := by decide +kernel
theorem dX1_distance_138 : decode cX1_distance 138 = .ok (.getfield 15, 3) := by decide +kernel
theorem dX1_distance_141 : decode cX1_distance 141 = .ok (.iload 9, 2) := by decide +kernel
theorem dX1_distance_143 : decode cX1_distance 143 = .ok (.iconst 1, 1) := by decide +kernel
theorem dX1_distance_144 : decode cX1_distance 144 = .ok (.iadd, 1) := by decide +kernel
theorem dX1_distance_145 : decode cX1_distance 145 = .ok (.iload 11, 2) := by decide +kernel
theorem dX1_distance_147 : decode cX1_distance 147 = .ok (.iload 8, 2) := by decide +kernel
theorem dX1_distance_149 : decode cX1_distance 149 = .ok (.aload_n 0, 1) := by decide +kernel
theorem dX1_distance_150 : decode cX1_distance 150 = .ok (.getfield 15, 3) := by decide +kernel
theorem dX1_distance_153 : decode cX1_distance 153 = .ok (.iload 9, 2) := by decide +kernel
theorem dX1_distance_155 : decode cX1_distance 155 = .ok (.iaload, 1) := by decide +kernel
theorem dX1_distance_156 : decode cX1_distance 156 = .ok (.invokestatic 25, 3) := by decide +kernel
theorem dX1_distance_159 : decode cX1_distance 159 = .ok (.iconst 1, 1) := by decide +kernel
theorem dX1_distance_160 : decode cX1_distance 160 = .ok (.iadd, 1) := by decide +kernel
theorem dX1_distance_161 : decode cX1_distance 161 = .ok (.invokestatic 25, 3) := by decide +kernel
theorem dX1_distance_164 : decode cX1_distance 164 = .ok (.iastore, 1) := by decide +kernel
theorem dX1_distance_165 : decode cX1_distance 165 = .ok (.iinc 9 1, 3) := by decide +kernel
theorem dX1_distance_168 : decode cX1_distance 168 = .ok (.goto (-83), 3) := by decide +kernel
theorem dX1_distance_171 : decode cX1_distance 171 = .ok (.iinc 7 1, 3) := by decide +kernel
theorem dX1_distance_174 : decode cX1_distance 174 = .ok (.goto (-117), 3) := by decide +kernel
theorem dX1_distance_177 : decode cX1_distance 177 = .ok (.aload_n 0, 1) := by decide +kernel
theorem dX1_distance_178 : decode cX1_distance 178 = .ok (.getfield 15, 3) := by decide +kernel
theorem dX1_distance_181 : decode cX1_distance 181 = .ok (.iload 6, 2) := by decide +kernel
theorem dX1_distance_183 : decode cX1_distance 183 = .ok (.iaload, 1) := by decide +kernel
theorem dX1_distance_184 : decode cX1_distance 184 = .ok (.ireturn, 1) := by decide +kernel
theorem dX2_init_0 : decode cX2_init 0 = .ok (.aload_n 0, 1) := by decide +kernel
theorem dX2_init_1 : decode cX2_init 1 = .ok (.invokespecial 3, 3) := by decide +kernel
theorem dX2_init_4 : decode cX2_init 4 = .ok (.aload_n 0, 1) := by decide +kernel
theorem dX2_init_5 : decode cX2_init 5 = .ok (.iconst 4, 1) := by decide +kernel
theorem dX2_init_6 : decode cX2_init 6 = .ok (.newarray .int, 2) := by decide +kernel
theorem dX2_init_8 : decode cX2_init 8 = .ok (.putfield 9, 3) := by decide +kernel
theorem dX2_init_11 : decode cX2_init 11 = .ok (.aload_n 0, 1) := by decide +kernel
theorem dX2_init_12 : decode cX2_init 12 = .ok (.bipush 11, 2) := by decide +kernel
theorem dX2_init_14 : decode cX2_init 14 = .ok (.newarray .int, 2) := by decide +kernel
theorem dX2_init_16 : decode cX2_init 16 = .ok (.putfield 15, 3) := by decide +kernel
theorem dX2_init_19 : decode cX2_init 19 = .ok (.aload_n 0, 1) := by decide +kernel
theorem dX2_init_20 : decode cX2_init 20 = .ok (.bipush 11, 2) := by decide +kernel
theorem dX2_init_22 : decode cX2_init 22 = .ok (.newarray .int, 2) := by decide +kernel
theorem dX2_init_24 : decode cX2_init 24 = .ok (.putfield 18, 3) := by decide +kernel
theorem dX2_init_27 : decode cX2_init 27 = .ok (.aload_n 0, 1) := by decide +kernel
theorem dX2_init_28 : decode cX2_init 28 = .ok (.iconst 0, 1) := by decide +kernel
theorem dX2_init_29 : decode cX2_init 29 = .ok (.putfield 21, 3) := by decide +kernel
theorem dX2_init_32 : decode cX2_init 32 = .ok (.aload_n 0, 1) := by decide +kernel
theorem dX2_init_33 : decode cX2_init 33 = .ok (.aload_n 1, 1) := by decide +kernel
theorem dX2_init_34 : decode cX2_init 34 = .ok (.putfield 25, 3) := by decide +kernel
theorem dX2_init_37 : decode cX2_init 37 = .ok (.return_, 1) := by decide +kernel
theorem dX2_prepare_0 : decode cX2_prepare 0 = .ok (.aload_n 0, 1) := by decide +kernel
theorem dX2_prepare_1 : decode cX2_prepare 1 = .ok (.iconst 0, 1) := by decide +kernel
theorem dX2_prepare_2 : decode cX2_prepare 2 = .ok (.putfield 21, 3) := by decide +kernel
theorem dX2_prepare_5 : decode cX2_prepare 5 = .ok (.iconst 0, 1) := by decide +kernel
theorem dX2_prepare_6 : decode cX2_prepare 6 = .ok (.istore_n 1, 1) := by decide +kernel
theorem dX2_prepare_7 : decode cX2_prepare 7 = .ok (.iload_n 1, 1) := by decide +kernel
theorem dX2_prepare_8 : decode cX2_prepare 8 = .ok (.aload_n 0, 1) := by decide +kernel
theorem dX2_prepare_9 : decode cX2_prepare 9 = .ok (.getfield 25, 3) := by decide +kernel
theorem dX2_prepare_12 : decode cX2_prepare 12 = .ok (.getfield 29, 3) := by decide +kernel
theorem dX2_prepare_15 : decode cX2_prepare 15 = .ok (.if_icmp .ge 55, 3) := by decide +kernel
theorem dX2_prepare_18 : decode cX2_prepare 18 = .ok (.aload_n 0, 1) := by decide +kernel
theorem dX2_prepare_19 : decode cX2_prepare 19 = .ok (.getfield 21, 3) := by decide +kernel
theorem dX2_prepare_22 : decode cX2_prepare 22 = .ok (.iconst 4, 1) := by decide +kernel
theorem dX2_prepare_23 : decode cX2_prepare 23 = .ok (.if_icmp .ge 47, 3) := by decide +kernel
theorem dX2_prepare_26 : decode cX2_prepare 26 = .ok (.aload_n 0, 1) := by decide +kernel
theorem dX2_prepare_27 : decode cX2_prepare 27 = .ok (.getfield 25, 3) := by decide +kernel
theorem dX2_prepare_30 : decode cX2_prepare 30 = .ok (.iload_n 1, 1) := by decide +kernel
theorem dX2_prepare_31 : decode cX2_prepare 31 = .ok (.invokevirtual 34, 3) := by decide +kernel
theorem dX2_prepare_34 : decode cX2_prepare 34 = .ok (.ifCond .eq 30, 3) := by decide +kernel
theorem dX2_prepare_37 : decode cX2_prepare 37 = .ok (.aload_n 0, 1) := by decide +kernel
theorem dX2_prepare_38 : decode cX2_prepare 38 = .ok (.getfield 9, 3) := by decide +kernel
theorem dX2_prepare_41 : decode cX2_prepare 41 = .ok (.aload_n 0, 1) := by decide +kernel
theorem dX2_prepare_42 : decode cX2_prepare 42 = .ok (.getfield 21, 3) := by decide +kernel
theorem dX2_prepare_45 : decode cX2_prepare 45 = .ok (.aload_n 0, 1) := by decide +kernel
theorem dX2_prepare_46 : decode cX2_prepare 46 = .ok (.getfield 25, 3) := by decide +kernel
theorem dX2_prepare_49 : decode cX2_prepare 49 = .ok (.iload_n 1, 1) := by decide +kernel
theorem dX2_prepare_50 : decode cX2_prepare 50 = .ok (.invokevirtual 38, 3) := by decide +kernel
theorem dX2_prepare_53 : decode cX2_prepare 53 = .ok (.iastore, 1) := by decide +kernel
theorem dX2_prepare_54 : decode cX2_prepare 54 = .ok (.aload_n 0, 1) := by decide +kernel
theorem dX2_prepare_55 : decode cX2_prepare 55 = .ok (.dup, 1) := by decide +kernel
theorem dX2_prepare_56 : decode cX2_prepare 56 = .ok (.getfield 21, 3) := by decide +kernel
theorem dX2_prepare_59 : decode cX2_prepare 59 = .ok (.iconst 1, 1) := by decide +kernel
theorem dX2_prepare_60 : decode cX2_prepare 60 = .ok (.iadd, 1) := by decide +kernel
theorem dX2_prepare_61 : decode cX2_prepare 61 = .ok (.putfield 21, 3) := by decide +kernel
theorem dX2_prepare_64 : decode cX2_prepare 64 = .ok (.iinc 1 1, 3) := by decide +kernel
theorem dX2_prepare_67 : decode cX2_prepare 67 = .ok (.goto (-60), 3) := by decide +kernel
theorem dX2_prepare_70 : decode cX2_prepare 70 = .ok (.return_, 1) := by decide +kernel
theorem dX2_tell_0 : decode cX2_tell 0 = .ok (.aload_n 0, 1) := by decide +kernel
theorem dX2_tell_1 : decode cX2_tell 1 = .ok (.lload_n 1, 1) := by decide +kernel
theorem dX2_tell_2 : decode cX2_tell 2 = .ok (.lload_n 1, 1) := by decide +kernel
theorem dX2_tell_3 : decode cX2_tell 3 = .ok (.iload_n 3, 1) := by decide +kernel
theorem dX2_tell_4 : decode cX2_tell 4 = .ok (.invokestatic 42, 3) := by decide +kernel
theorem dX2_tell_7 : decode cX2_tell 7 = .ok (.aload_n 0, 1) := by decide +kernel
theorem dX2_tell_8 : decode cX2_tell 8 = .ok (.getfield 15, 3) := by decide +kernel
theorem dX2_tell_11 : decode cX2_tell 11 = .ok (.invokevirtual 46, 3) := by decide +kernel
theorem dX2_tell_14 : decode cX2_tell 14 = .ok (.aload_n 0, 1) := by decide +kernel
theorem dX2_tell_15 : decode cX2_tell 15 = .ok (.lload_n 1, 1) := by decide +kernel
theorem dX2_tell_16 : decode cX2_tell 16 = .ok (.lload_n 1, 1) := by decide +kernel
theorem dX2_tell_17 : decode cX2_tell 17 = .ok (.iload 4, 2) := by decide +kernel
theorem dX2_tell_19 : decode cX2_tell 19 = .ok (.invokestatic 42, 3) := by decide +kernel
theorem dX2_tell_22 : decode cX2_tell 22 = .ok (.aload_n 0, 1) := by decide +kernel
theorem dX2_tell_23 : decode cX2_tell 23 = .ok (.getfield 18, 3) := by decide +kernel
theorem dX2_tell_26 : decode cX2_tell 26 = .ok (.invokevirtual 46, 3) := by decide +kernel
theorem dX2_tell_29 : decode cX2_tell 29 = .ok (.iconst 0, 1) := by decide +kernel
theorem dX2_tell_30 : decode cX2_tell 30 = .ok (.istore 5, 2) := by decide +kernel
theorem dX2_tell_32 : decode cX2_tell 32 = .ok (.iload 5, 2) := by decide +kernel
theorem dX2_tell_34 : decode cX2_tell 34 = .ok (.bipush 20, 2) := by decide +kernel
theorem dX2_tell_36 : decode cX2_tell 36 = .ok (.if_icmp .gt 77, 3) := by decide +kernel
theorem dX2_tell_39 : decode cX2_tell 39 = .ok (.iconst 0, 1) := by decide +kernel
theorem dX2_tell_40 : decode cX2_tell 40 = .ok (.iload 5, 2) := by decide +kernel
theorem dX2_tell_42 : decode cX2_tell 42 = .ok (.bipush 10, 2) := by decide +kernel
theorem dX2_tell_44 : decode cX2_tell 44 = .ok (.isub, 1) := by decide +kernel
theorem dX2_tell_45 : decode cX2_tell 45 = .ok (.invokestatic 50, 3) := by decide +kernel
theorem dX2_tell_48 : decode cX2_tell 48 = .ok (.istore 6, 2) := by decide +kernel
theorem dX2_tell_50 : decode cX2_tell 50 = .ok (.iload 6, 2) := by decide +kernel
theorem dX2_tell_52 : decode cX2_tell 52 = .ok (.istore 7, 2) := by decide +kernel
theorem dX2_tell_54 : decode cX2_tell 54 = .ok (.iload 7, 2) := by decide +kernel
theorem dX2_tell_56 : decode cX2_tell 56 = .ok (.iload 5, 2) := by decide +kernel
theorem dX2_tell_58 : decode cX2_tell 58 = .ok (.if_icmp .gt 49, 3) := by decide +kernel
theorem dX2_tell_61 : decode cX2_tell 61 = .ok (.iload 7, 2) := by decide +kernel
theorem dX2_tell_63 : decode cX2_tell 63 = .ok (.bipush 10, 2) := by decide +kernel
theorem dX2_tell_65 : decode cX2_tell 65 = .ok (.if_icmp .gt 42, 3) := by decide +kernel
theorem dX2_tell_68 : decode cX2_tell 68 = .ok (.aload_n 0, 1) := by decide +kernel
theorem dX2_tell_69 : decode cX2_tell 69 = .ok (.getfield 15, 3) := by decide +kernel
theorem dX2_tell_72 : decode cX2_tell 72 = .ok (.iload 7, 2) := by decide +kernel
theorem dX2_tell_74 : decode cX2_tell 74 = .ok (.iaload, 1) := by decide +kernel
theorem dX2_tell_75 : decode cX2_tell 75 = .ok (.aload_n 0, 1) := by decide +kernel
theorem dX2_tell_76 : decode cX2_tell 76 = .ok (.getfield 18, 3) := by decide +kernel
theorem dX2_tell_79 : decode cX2_tell 79 = .ok (.iload 5, 2) := by decide +kernel
theorem dX2_tell_81 : decode cX2_tell 81 = .ok (.iload 7, 2) := by decide +kernel
theorem dX2_tell_83 : decode cX2_tell 83 = .ok (.isub, 1) := by decide +kernel
theorem dX2_tell_84 : decode cX2_tell 84 = .ok (.iaload, 1) := by decide +kernel
theorem dX2_tell_85 : decode cX2_tell 85 = .ok (.iand, 1) := by decide +kernel
theorem dX2_tell_86 : decode cX2_tell 86 = .ok (.ifCond .eq 15, 3) := by decide +kernel
theorem dX2_tell_89 : decode cX2_tell 89 = .ok (.bipush 100, 2) := by decide +kernel
theorem dX2_tell_91 : decode cX2_tell 91 = .ok (.iload 7, 2) := by decide +kernel
theorem dX2_tell_93 : decode cX2_tell 93 = .ok (.imul, 1) := by decide +kernel
theorem dX2_tell_94 : decode cX2_tell 94 = .ok (.iload 5, 2) := by decide +kernel
theorem dX2_tell_96 : decode cX2_tell 96 = .ok (.iadd, 1) := by decide +kernel
theorem dX2_tell_97 : decode cX2_tell 97 = .ok (.iload 7, 2) := by decide +kernel
theorem dX2_tell_99 : decode cX2_tell 99 = .ok (.isub, 1) := by decide +kernel
theorem dX2_tell_100 : decode cX2_tell 100 = .ok (.ireturn, 1) := by decide +kernel
theorem dX2_tell_101 : decode cX2_tell 101 = .ok (.iinc 7 1, 3) := by decide +kernel
theorem dX2_tell_104 : decode cX2_tell 104 = .ok (.goto (-50), 3) := by decide +kernel
theorem dX2_tell_107 : decode cX2_tell 107 = .ok (.iinc 5 1, 3) := by decide +kernel
theorem dX2_tell_110 : decode cX2_tell 110 = .ok (.goto (-78), 3) := by decide +kernel
theorem dX2_tell_113 : decode cX2_tell 113 = .ok (.iconst (-1), 1) := by decide +kernel
theorem dX2_tell_114 : decode cX2_tell 114 = .ok (.ireturn, 1) := by decide +kernel
theorem dX2_climb_0 : decode cX2_climb 0 = .ok (.iconst 1, 1) := by decide +kernel
theorem dX2_climb_1 : decode cX2_climb 1 = .ok (.iload_n 3, 1) := by decide +kernel
theorem dX2_climb_2 : decode cX2_climb 2 = .ok (.ishl, 1) := by decide +kernel
theorem dX2_climb_3 : decode cX2_climb 3 = .ok (.istore 5, 2) := by decide +kernel
theorem dX2_climb_5 : decode cX2_climb 5 = .ok (.iconst 0, 1) := by decide +kernel
theorem dX2_climb_6 : decode cX2_climb 6 = .ok (.istore 6, 2) := by decide +kernel
theorem dX2_climb_8 : decode cX2_climb 8 = .ok (.iload 6, 2) := by decide +kernel
theorem dX2_climb_10 : decode cX2_climb 10 = .ok (.aload 4, 2) := by decide +kernel
theorem dX2_climb_12 : decode cX2_climb 12 = .ok (.arraylength, 1) := by decide +kernel
theorem dX2_climb_13 : decode cX2_climb 13 = .ok (.if_icmp .ge 25, 3) := by decide +kernel
theorem dX2_climb_16 : decode cX2_climb 16 = .ok (.aload 4, 2) := by decide +kernel
theorem dX2_climb_18 : decode cX2_climb 18 = .ok (.iload 6, 2) := by decide +kernel
theorem dX2_climb_20 : decode cX2_climb 20 = .ok (.iload 5, 2) := by decide +kernel
theorem dX2_climb_22 : decode cX2_climb 22 = .ok (.iastore, 1) := by decide +kernel
theorem dX2_climb_23 : decode cX2_climb 23 = .ok (.aload_n 0, 1) := by decide +kernel
theorem dX2_climb_24 : decode cX2_climb 24 = .ok (.lload_n 1, 1) := by decide +kernel
theorem dX2_climb_25 : decode cX2_climb 25 = .ok (.iload 5, 2) := by decide +kernel
theorem dX2_climb_27 : decode cX2_climb 27 = .ok (.invokevirtual 56, 3) := by decide +kernel
theorem dX2_climb_30 : decode cX2_climb 30 = .ok (.istore 5, 2) := by decide +kernel
theorem dX2_climb_32 : decode cX2_climb 32 = .ok (.iinc 6 1, 3) := by decide +kernel
theorem dX2_climb_35 : decode cX2_climb 35 = .ok (.goto (-27), 3) := by decide +kernel
theorem dX2_climb_38 : decode cX2_climb 38 = .ok (.return_, 1) := by decide +kernel
theorem dX2_parentsOf_0 : decode cX2_parentsOf 0 = .ok (.iconst 0, 1) := by decide +kernel
theorem dX2_parentsOf_1 : decode cX2_parentsOf 1 = .ok (.istore 4, 2) := by decide +kernel
theorem dX2_parentsOf_3 : decode cX2_parentsOf 3 = .ok (.iconst 0, 1) := by decide +kernel
theorem dX2_parentsOf_4 : decode cX2_parentsOf 4 = .ok (.istore 5, 2) := by decide +kernel
theorem dX2_parentsOf_6 : decode cX2_parentsOf 6 = .ok (.iload 5, 2) := by decide +kernel
theorem dX2_parentsOf_8 : decode cX2_parentsOf 8 = .ok (.aload_n 0, 1) := by decide +kernel
theorem dX2_parentsOf_9 : decode cX2_parentsOf 9 = .ok (.getfield 21, 3) := by decide +kernel
theorem dX2_parentsOf_12 : decode cX2_parentsOf 12 = .ok (.if_icmp .ge 73, 3) := by decide +kernel
theorem dX2_parentsOf_15 : decode cX2_parentsOf 15 = .ok (.iload 5, 2) := by decide +kernel
theorem dX2_parentsOf_17 : decode cX2_parentsOf 17 = .ok (.iconst 4, 1) := by decide +kernel
theorem dX2_parentsOf_18 : decode cX2_parentsOf 18 = .ok (.if_icmp .ge 67, 3) := by decide +kernel
theorem dX2_parentsOf_21 : decode cX2_parentsOf 21 = .ok (.iload_n 3, 1) := by decide +kernel
theorem dX2_parentsOf_22 : decode cX2_parentsOf 22 = .ok (.ifCond .eq 63, 3) := by decide +kernel
theorem dX2_parentsOf_25 : decode cX2_parentsOf 25 = .ok (.iload_n 3, 1) := by decide +kernel
theorem dX2_parentsOf_26 : decode cX2_parentsOf 26 = .ok (.lload_n 1, 1) := by decide +kernel
theorem dX2_parentsOf_27 : decode cX2_parentsOf 27 = .ok (.aload_n 0, 1) := by decide +kernel
theorem dX2_parentsOf_28 : decode cX2_parentsOf 28 = .ok (.getfield 9, 3) := by decide +kernel
theorem dX2_parentsOf_31 : decode cX2_parentsOf 31 = .ok (.iload 5, 2) := by decide +kernel
theorem dX2_parentsOf_33 : decode cX2_parentsOf 33 = .ok (.iaload, 1) := by decide +kernel
theorem dX2_parentsOf_34 : decode cX2_parentsOf 34 = .ok (.invokestatic 42, 3) := by decide +kernel
theorem dX2_parentsOf_37 : decode cX2_parentsOf 37 = .ok (.ishr, 1) := by decide +kernel
theorem dX2_parentsOf_38 : decode cX2_parentsOf 38 = .ok (.iconst 1, 1) := by decide +kernel
theorem dX2_parentsOf_39 : decode cX2_parentsOf 39 = .ok (.iand, 1) := by decide +kernel
theorem dX2_parentsOf_40 : decode cX2_parentsOf 40 = .ok (.ifCond .eq 39, 3) := by decide +kernel
theorem dX2_parentsOf_43 : decode cX2_parentsOf 43 = .ok (.iload 4, 2) := by decide +kernel
theorem dX2_parentsOf_45 : decode cX2_parentsOf 45 = .ok (.iconst 1, 1) := by decide +kernel
theorem dX2_parentsOf_46 : decode cX2_parentsOf 46 = .ok (.lload_n 1, 1) := by decide +kernel
theorem dX2_parentsOf_47 : decode cX2_parentsOf 47 = .ok (.aload_n 0, 1) := by decide +kernel
theorem dX2_parentsOf_48 : decode cX2_parentsOf 48 = .ok (.getfield 9, 3) := by decide +kernel
theorem dX2_parentsOf_51 : decode cX2_parentsOf 51 = .ok (.iload 5, 2) := by decide +kernel
theorem dX2_parentsOf_53 : decode cX2_parentsOf 53 = .ok (.iaload, 1) := by decide +kernel
theorem dX2_parentsOf_54 : decode cX2_parentsOf 54 = .ok (.iconst 1, 1) := by decide +kernel
theorem dX2_parentsOf_55 : decode cX2_parentsOf 55 = .ok (.iadd, 1) := by decide +kernel
theorem dX2_parentsOf_56 : decode cX2_parentsOf 56 = .ok (.invokestatic 42, 3) := by decide +kernel
theorem dX2_parentsOf_59 : decode cX2_parentsOf 59 = .ok (.ishl, 1) := by decide +kernel
theorem dX2_parentsOf_60 : decode cX2_parentsOf 60 = .ok (.iconst 1, 1) := by decide +kernel
theorem dX2_parentsOf_61 : decode cX2_parentsOf 61 = .ok (.lload_n 1, 1) := by decide +kernel
theorem dX2_parentsOf_62 : decode cX2_parentsOf 62 = .ok (.aload_n 0, 1) := by decide +kernel
theorem dX2_parentsOf_63 : decode cX2_parentsOf 63 = .ok (.getfield 9, 3) := by decide +kernel
theorem dX2_parentsOf_66 : decode cX2_parentsOf 66 = .ok (.iload 5, 2) := by decide +kernel
theorem dX2_parentsOf_68 : decode cX2_parentsOf 68 = .ok (.iaload, 1) := by decide +kernel
theorem dX2_parentsOf_69 : decode cX2_parentsOf 69 = .ok (.iconst 2, 1) := by decide +kernel
theorem dX2_parentsOf_70 : decode cX2_parentsOf 70 = .ok (.iadd, 1) := by decide +kernel
theorem dX2_parentsOf_71 : decode cX2_parentsOf 71 = .ok (.invokestatic 42, 3) := by decide +kernel
theorem dX2_parentsOf_74 : decode cX2_parentsOf 74 = .ok (.ishl, 1) := by decide +kernel
theorem dX2_parentsOf_75 : decode cX2_parentsOf 75 = .ok (.ior, 1) := by decide +kernel
theorem dX2_parentsOf_76 : decode cX2_parentsOf 76 = .ok (.ior, 1) := by decide +kernel
theorem dX2_parentsOf_77 : decode cX2_parentsOf 77 = .ok (.istore 4, 2) := by decide +kernel
theorem dX2_parentsOf_79 : decode cX2_parentsOf 79 = .ok (.iinc 5 1, 3) := by decide +kernel
theorem dX2_parentsOf_82 : decode cX2_parentsOf 82 = .ok (.goto (-76), 3) := by decide +kernel
theorem dX2_parentsOf_85 : decode cX2_parentsOf 85 = .ok (.iload 4, 2) := by decide +kernel
theorem dX2_parentsOf_87 : decode cX2_parentsOf 87 = .ok (.ireturn, 1) := by decide +kernel
theorem dX3_isLetter_0 : decode cX3_isLetter 0 = .ok (.iload_n 0, 1) := by decide +kernel
theorem dX3_isLetter_1 : decode cX3_isLetter 1 = .ok (.ifCond .lt 13, 3) := by decide +kernel
theorem dX3_isLetter_4 : decode cX3_isLetter 4 = .ok (.iload_n 0, 1) := by decide +kernel
theorem dX3_isLetter_5 : decode cX3_isLetter 5 = .ok (.bipush 26, 2) := by decide +kernel
theorem dX3_isLetter_7 : decode cX3_isLetter 7 = .ok (.if_icmp .ge 7, 3) := by decide +kernel
theorem dX3_isLetter_10 : decode cX3_isLetter 10 = .ok (.iconst 1, 1) := by decide +kernel
theorem dX3_isLetter_11 : decode cX3_isLetter 11 = .ok (.goto 4, 3) := by decide +kernel
theorem dX3_isLetter_14 : decode cX3_isLetter 14 = .ok (.iconst 0, 1) := by decide +kernel
theorem dX3_isLetter_15 : decode cX3_isLetter 15 = .ok (.ireturn, 1) := by decide +kernel
theorem dX3_isName_0 : decode cX3_isName 0 = .ok (.lload_n 0, 1) := by decide +kernel
theorem dX3_isName_1 : decode cX3_isName 1 = .ok (.invokestatic 9, 3) := by decide +kernel
theorem dX3_isName_4 : decode cX3_isName 4 = .ok (.istore_n 2, 1) := by decide +kernel
theorem dX3_isName_5 : decode cX3_isName 5 = .ok (.iconst 0, 1) := by decide +kernel
theorem dX3_isName_6 : decode cX3_isName 6 = .ok (.istore_n 3, 1) := by decide +kernel
theorem dX3_isName_7 : decode cX3_isName 7 = .ok (.iload_n 3, 1) := by decide +kernel
theorem dX3_isName_8 : decode cX3_isName 8 = .ok (.iload_n 2, 1) := by decide +kernel
theorem dX3_isName_9 : decode cX3_isName 9 = .ok (.if_icmp .ge 22, 3) := by decide +kernel
theorem dX3_isName_12 : decode cX3_isName 12 = .ok (.lload_n 0, 1) := by decide +kernel
theorem dX3_isName_13 : decode cX3_isName 13 = .ok (.iload_n 3, 1) := by decide +kernel
theorem dX3_isName_14 : decode cX3_isName 14 = .ok (.invokestatic 15, 3) := by decide +kernel
theorem dX3_isName_17 : decode cX3_isName 17 = .ok (.invokestatic 19, 3) := by decide +kernel
theorem dX3_isName_20 : decode cX3_isName 20 = .ok (.ifCond .ne 5, 3) := by decide +kernel
theorem dX3_isName_23 : decode cX3_isName 23 = .ok (.iconst 0, 1) := by decide +kernel
theorem dX3_isName_24 : decode cX3_isName 24 = .ok (.ireturn, 1) := by decide +kernel
theorem dX3_isName_25 : decode cX3_isName 25 = .ok (.iinc 3 1, 3) := by decide +kernel
theorem dX3_isName_28 : decode cX3_isName 28 = .ok (.goto (-21), 3) := by decide +kernel
theorem dX3_isName_31 : decode cX3_isName 31 = .ok (.iconst 1, 1) := by decide +kernel
theorem dX3_isName_32 : decode cX3_isName 32 = .ok (.ireturn, 1) := by decide +kernel
theorem dX3_lengthOf_0 : decode cX3_lengthOf 0 = .ok (.iconst 0, 1) := by decide +kernel
theorem dX3_lengthOf_1 : decode cX3_lengthOf 1 = .ok (.istore_n 2, 1) := by decide +kernel
theorem dX3_lengthOf_2 : decode cX3_lengthOf 2 = .ok (.iconst 0, 1) := by decide +kernel
theorem dX3_lengthOf_3 : decode cX3_lengthOf 3 = .ok (.istore_n 3, 1) := by decide +kernel
theorem dX3_lengthOf_4 : decode cX3_lengthOf 4 = .ok (.iload_n 3, 1) := by decide +kernel
theorem dX3_lengthOf_5 : decode cX3_lengthOf 5 = .ok (.bipush 8, 2) := by decide +kernel
theorem dX3_lengthOf_7 : decode cX3_lengthOf 7 = .ok (.if_icmp .ge 24, 3) := by decide +kernel
theorem dX3_lengthOf_10 : decode cX3_lengthOf 10 = .ok (.lload_n 0, 1) := by decide +kernel
theorem dX3_lengthOf_11 : decode cX3_lengthOf 11 = .ok (.bipush 8, 2) := by decide +kernel
theorem dX3_lengthOf_13 : decode cX3_lengthOf 13 = .ok (.iload_n 3, 1) := by decide +kernel
theorem dX3_lengthOf_14 : decode cX3_lengthOf 14 = .ok (.imul, 1) := by decide +kernel
theorem dX3_lengthOf_15 : decode cX3_lengthOf 15 = .ok (.lushr, 1) := by decide +kernel
theorem dX3_lengthOf_16 : decode cX3_lengthOf 16 = .ok (.lconst 0, 1) := by decide +kernel
theorem dX3_lengthOf_17 : decode cX3_lengthOf 17 = .ok (.lcmp, 1) := by decide +kernel
theorem dX3_lengthOf_18 : decode cX3_lengthOf 18 = .ok (.ifCond .eq 7, 3) := by decide +kernel
theorem dX3_lengthOf_21 : decode cX3_lengthOf 21 = .ok (.iload_n 3, 1) := by decide +kernel
theorem dX3_lengthOf_22 : decode cX3_lengthOf 22 = .ok (.iconst 1, 1) := by decide +kernel
theorem dX3_lengthOf_23 : decode cX3_lengthOf 23 = .ok (.iadd, 1) := by decide +kernel
theorem dX3_lengthOf_24 : decode cX3_lengthOf 24 = .ok (.istore_n 2, 1) := by decide +kernel
theorem dX3_lengthOf_25 : decode cX3_lengthOf 25 = .ok (.iinc 3 1, 3) := by decide +kernel
theorem dX3_lengthOf_28 : decode cX3_lengthOf 28 = .ok (.goto (-24), 3) := by decide +kernel
theorem dX3_lengthOf_31 : decode cX3_lengthOf 31 = .ok (.iload_n 2, 1) := by decide +kernel
theorem dX3_lengthOf_32 : decode cX3_lengthOf 32 = .ok (.ireturn, 1) := by decide +kernel
theorem dX3_letterOf_0 : decode cX3_letterOf 0 = .ok (.lload_n 0, 1) := by decide +kernel
theorem dX3_letterOf_1 : decode cX3_letterOf 1 = .ok (.bipush 8, 2) := by decide +kernel
theorem dX3_letterOf_3 : decode cX3_letterOf 3 = .ok (.iload_n 2, 1) := by decide +kernel
theorem dX3_letterOf_4 : decode cX3_letterOf 4 = .ok (.imul, 1) := by decide +kernel
theorem dX3_letterOf_5 : decode cX3_letterOf 5 = .ok (.lushr, 1) := by decide +kernel
theorem dX3_letterOf_6 : decode cX3_letterOf 6 = .ok (.ldc2_w 23, 3) := by decide +kernel
theorem dX3_letterOf_9 : decode cX3_letterOf 9 = .ok (.land, 1) := by decide +kernel
theorem dX3_letterOf_10 : decode cX3_letterOf 10 = .ok (.l2i, 1) := by decide +kernel
theorem dX3_letterOf_11 : decode cX3_letterOf 11 = .ok (.bipush 97, 2) := by decide +kernel
theorem dX3_letterOf_13 : decode cX3_letterOf 13 = .ok (.isub, 1) := by decide +kernel
theorem dX3_letterOf_14 : decode cX3_letterOf 14 = .ok (.ireturn, 1) := by decide +kernel
theorem dX4_init_0 : decode cX4_init 0 = .ok (.aload_n 0, 1) := by decide +kernel
theorem dX4_init_1 : decode cX4_init 1 = .ok (.invokespecial 3, 3) := by decide +kernel
theorem dX4_init_4 : decode cX4_init 4 = .ok (.aload_n 0, 1) := by decide +kernel
theorem dX4_init_5 : decode cX4_init 5 = .ok (.bipush 14, 2) := by decide +kernel
theorem dX4_init_7 : decode cX4_init 7 = .ok (.newarray .int, 2) := by decide +kernel
theorem dX4_init_9 : decode cX4_init 9 = .ok (.putfield 9, 3) := by decide +kernel
theorem dX4_init_12 : decode cX4_init 12 = .ok (.aload_n 0, 1) := by decide +kernel
theorem dX4_init_13 : decode cX4_init 13 = .ok (.bipush 14, 2) := by decide +kernel
theorem dX4_init_15 : decode cX4_init 15 = .ok (.newarray .int, 2) := by decide +kernel
theorem dX4_init_17 : decode cX4_init 17 = .ok (.putfield 15, 3) := by decide +kernel
theorem dX4_init_20 : decode cX4_init 20 = .ok (.aload_n 0, 1) := by decide +kernel
theorem dX4_init_21 : decode cX4_init 21 = .ok (.bipush 14, 2) := by decide +kernel
theorem dX4_init_23 : decode cX4_init 23 = .ok (.newarray .int, 2) := by decide +kernel
theorem dX4_init_25 : decode cX4_init 25 = .ok (.putfield 18, 3) := by decide +kernel
theorem dX4_init_28 : decode cX4_init 28 = .ok (.aload_n 0, 1) := by decide +kernel
theorem dX4_init_29 : decode cX4_init 29 = .ok (.bipush 14, 2) := by decide +kernel
theorem dX4_init_31 : decode cX4_init 31 = .ok (.newarray .int, 2) := by decide +kernel
theorem dX4_init_33 : decode cX4_init 33 = .ok (.putfield 21, 3) := by decide +kernel
theorem dX4_init_36 : decode cX4_init 36 = .ok (.aload_n 0, 1) := by decide +kernel
theorem dX4_init_37 : decode cX4_init 37 = .ok (.bipush 14, 2) := by decide +kernel
theorem dX4_init_39 : decode cX4_init 39 = .ok (.newarray .int, 2) := by decide +kernel
theorem dX4_init_41 : decode cX4_init 41 = .ok (.putfield 24, 3) := by decide +kernel
theorem dX4_init_44 : decode cX4_init 44 = .ok (.aload_n 0, 1) := by decide +kernel
theorem dX4_init_45 : decode cX4_init 45 = .ok (.bipush 14, 2) := by decide +kernel
theorem dX4_init_47 : decode cX4_init 47 = .ok (.newarray .int, 2) := by decide +kernel
theorem dX4_init_49 : decode cX4_init 49 = .ok (.putfield 27, 3) := by decide +kernel
theorem dX4_init_52 : decode cX4_init 52 = .ok (.aload_n 0, 1) := by decide +kernel
theorem dX4_init_53 : decode cX4_init 53 = .ok (.sipush 196, 3) := by decide +kernel
theorem dX4_init_56 : decode cX4_init 56 = .ok (.newarray .int, 2) := by decide +kernel
theorem dX4_init_58 : decode cX4_init 58 = .ok (.putfield 30, 3) := by decide +kernel
theorem dX4_init_61 : decode cX4_init 61 = .ok (.aload_n 0, 1) := by decide +kernel
theorem dX4_init_62 : decode cX4_init 62 = .ok (.bipush 14, 2) := by decide +kernel
theorem dX4_init_64 : decode cX4_init 64 = .ok (.newarray .int, 2) := by decide +kernel
theorem dX4_init_66 : decode cX4_init 66 = .ok (.putfield 33, 3) := by decide +kernel
theorem dX4_init_69 : decode cX4_init 69 = .ok (.aload_n 0, 1) := by decide +kernel
theorem dX4_init_70 : decode cX4_init 70 = .ok (.bipush 14, 2) := by decide +kernel
theorem dX4_init_72 : decode cX4_init 72 = .ok (.newarray .int, 2) := by decide +kernel
theorem dX4_init_74 : decode cX4_init 74 = .ok (.putfield 36, 3) := by decide +kernel
theorem dX4_init_77 : decode cX4_init 77 = .ok (.aload_n 0, 1) := by decide +kernel
theorem dX4_init_78 : decode cX4_init 78 = .ok (.bipush 14, 2) := by decide +kernel
theorem dX4_init_80 : decode cX4_init 80 = .ok (.newarray .int, 2) := by decide +kernel
theorem dX4_init_82 : decode cX4_init 82 = .ok (.putfield 39, 3) := by decide +kernel
theorem dX4_init_85 : decode cX4_init 85 = .ok (.aload_n 0, 1) := by decide +kernel
theorem dX4_init_86 : decode cX4_init 86 = .ok (.bipush 14, 2) := by decide +kernel
theorem dX4_init_88 : decode cX4_init 88 = .ok (.newarray .int, 2) := by decide +kernel
theorem dX4_init_90 : decode cX4_init 90 = .ok (.putfield 42, 3) := by decide +kernel
theorem dX4_init_93 : decode cX4_init 93 = .ok (.aload_n 0, 1) := by decide +kernel
theorem dX4_init_94 : decode cX4_init 94 = .ok (.bipush 14, 2) := by decide +kernel
theorem dX4_init_96 : decode cX4_init 96 = .ok (.newarray .int, 2) := by decide +kernel
theorem dX4_init_98 : decode cX4_init 98 = .ok (.putfield 45, 3) := by decide +kernel
theorem dX4_init_101 : decode cX4_init 101 = .ok (.aload_n 0, 1) := by decide +kernel
theorem dX4_init_102 : decode cX4_init 102 = .ok (.iconst 0, 1) := by decide +kernel
theorem dX4_init_103 : decode cX4_init 103 = .ok (.putfield 48, 3) := by decide +kernel
theorem dX4_init_106 : decode cX4_init 106 = .ok (.aload_n 0, 1) := by decide +kernel
theorem dX4_init_107 : decode cX4_init 107 = .ok (.aload_n 1, 1) := by decide +kernel
theorem dX4_init_108 : decode cX4_init 108 = .ok (.putfield 52, 3) := by decide +kernel
theorem dX4_init_111 : decode cX4_init 111 = .ok (.return_, 1) := by decide +kernel
theorem dX4_admits_0 : decode cX4_admits 0 = .ok (.iload_n 1, 1) := by decide +kernel
theorem dX4_admits_1 : decode cX4_admits 1 = .ok (.invokestatic 56, 3) := by decide +kernel
theorem dX4_admits_4 : decode cX4_admits 4 = .ok (.ifCond .eq 10, 3) := by decide +kernel
theorem dX4_admits_7 : decode cX4_admits 7 = .ok (.iload_n 2, 1) := by decide +kernel
theorem dX4_admits_8 : decode cX4_admits 8 = .ok (.invokestatic 56, 3) := by decide +kernel
theorem dX4_admits_11 : decode cX4_admits 11 = .ok (.ifCond .ne 5, 3) := by decide +kernel
theorem dX4_admits_14 : decode cX4_admits 14 = .ok (.iconst 0, 1) := by decide +kernel
theorem dX4_admits_15 : decode cX4_admits 15 = .ok (.ireturn, 1) := by decide +kernel
theorem dX4_admits_16 : decode cX4_admits 16 = .ok (.iload_n 1, 1) := by decide +kernel
theorem dX4_admits_17 : decode cX4_admits 17 = .ok (.aload_n 0, 1) := by decide +kernel
theorem dX4_admits_18 : decode cX4_admits 18 = .ok (.getfield 48, 3) := by decide +kernel
theorem dX4_admits_21 : decode cX4_admits 21 = .ok (.if_icmp .lt 30, 3) := by decide +kernel
theorem dX4_admits_24 : decode cX4_admits 24 = .ok (.aload_n 0, 1) := by decide +kernel
theorem dX4_admits_25 : decode cX4_admits 25 = .ok (.getfield 52, 3) := by decide +kernel
theorem dX4_admits_28 : decode cX4_admits 28 = .ok (.getfield 60, 3) := by decide +kernel
theorem dX4_admits_31 : decode cX4_admits 31 = .ok (.iload_n 2, 1) := by decide +kernel
theorem dX4_admits_32 : decode cX4_admits 32 = .ok (.iaload, 1) := by decide +kernel
theorem dX4_admits_33 : decode cX4_admits 33 = .ok (.aload_n 0, 1) := by decide +kernel
theorem dX4_admits_34 : decode cX4_admits 34 = .ok (.getfield 52, 3) := by decide +kernel
theorem dX4_admits_37 : decode cX4_admits 37 = .ok (.getfield 63, 3) := by decide +kernel
theorem dX4_admits_40 : decode cX4_admits 40 = .ok (.iload_n 2, 1) := by decide +kernel
theorem dX4_admits_41 : decode cX4_admits 41 = .ok (.iaload, 1) := by decide +kernel
theorem dX4_admits_42 : decode cX4_admits 42 = .ok (.if_icmp .gt 7, 3) := by decide +kernel
theorem dX4_admits_45 : decode cX4_admits 45 = .ok (.iconst 1, 1) := by decide +kernel
theorem dX4_admits_46 : decode cX4_admits 46 = .ok (.goto 4, 3) := by decide +kernel
theorem dX4_admits_49 : decode cX4_admits 49 = .ok (.iconst 0, 1) := by decide +kernel
theorem dX4_admits_50 : decode cX4_admits 50 = .ok (.ireturn, 1) := by decide +kernel
theorem dX4_admits_51 : decode cX4_admits 51 = .ok (.aload_n 0, 1) := by decide +kernel
theorem dX4_admits_52 : decode cX4_admits 52 = .ok (.getfield 18, 3) := by decide +kernel
theorem dX4_admits_55 : decode cX4_admits 55 = .ok (.iload_n 1, 1) := by decide +kernel
theorem dX4_admits_56 : decode cX4_admits 56 = .ok (.iaload, 1) := by decide +kernel
theorem dX4_admits_57 : decode cX4_admits 57 = .ok (.aload_n 0, 1) := by decide +kernel
theorem dX4_admits_58 : decode cX4_admits 58 = .ok (.getfield 52, 3) := by decide +kernel
theorem dX4_admits_61 : decode cX4_admits 61 = .ok (.getfield 64, 3) := by decide +kernel
theorem dX4_admits_64 : decode cX4_admits 64 = .ok (.iload_n 2, 1) := by decide +kernel
theorem dX4_admits_65 : decode cX4_admits 65 = .ok (.iaload, 1) := by decide +kernel
theorem dX4_admits_66 : decode cX4_admits 66 = .ok (.iand, 1) := by decide +kernel
theorem dX4_admits_67 : decode cX4_admits 67 = .ok (.ifCond .ne 85, 3) := by decide +kernel
theorem dX4_admits_70 : decode cX4_admits 70 = .ok (.aload_n 0, 1) := by decide +kernel
theorem dX4_admits_71 : decode cX4_admits 71 = .ok (.getfield 9, 3) := by decide +kernel
theorem dX4_admits_74 : decode cX4_admits 74 = .ok (.iload_n 1, 1) := by decide +kernel
theorem dX4_admits_75 : decode cX4_admits 75 = .ok (.iaload, 1) := by decide +kernel
theorem dX4_admits_76 : decode cX4_admits 76 = .ok (.aload_n 0, 1) := by decide +kernel
theorem dX4_admits_77 : decode cX4_admits 77 = .ok (.getfield 52, 3) := by decide +kernel
theorem dX4_admits_80 : decode cX4_admits 80 = .ok (.getfield 60, 3) := by decide +kernel
theorem dX4_admits_83 : decode cX4_admits 83 = .ok (.iload_n 2, 1) := by decide +kernel
theorem dX4_admits_84 : decode cX4_admits 84 = .ok (.iaload, 1) := by decide +kernel
theorem dX4_admits_85 : decode cX4_admits 85 = .ok (.invokestatic 67, 3) := by decide +kernel
theorem dX4_admits_88 : decode cX4_admits 88 = .ok (.aload_n 0, 1) := by decide +kernel
theorem dX4_admits_89 : decode cX4_admits 89 = .ok (.getfield 15, 3) := by decide +kernel
theorem dX4_admits_92 : decode cX4_admits 92 = .ok (.iload_n 1, 1) := by decide +kernel
theorem dX4_admits_93 : decode cX4_admits 93 = .ok (.iaload, 1) := by decide +kernel
theorem dX4_admits_94 : decode cX4_admits 94 = .ok (.aload_n 0, 1) := by decide +kernel
theorem dX4_admits_95 : decode cX4_admits 95 = .ok (.getfield 52, 3) := by decide +kernel
theorem dX4_admits_98 : decode cX4_admits 98 = .ok (.getfield 63, 3) := by decide +kernel
theorem dX4_admits_101 : decode cX4_admits 101 = .ok (.iload_n 2, 1) := by decide +kernel
theorem dX4_admits_102 : decode cX4_admits 102 = .ok (.iaload, 1) := by decide +kernel
theorem dX4_admits_103 : decode cX4_admits 103 = .ok (.invokestatic 73, 3) := by decide +kernel
theorem dX4_admits_106 : decode cX4_admits 106 = .ok (.if_icmp .gt 46, 3) := by decide +kernel
theorem dX4_admits_109 : decode cX4_admits 109 = .ok (.aload_n 0, 1) := by decide +kernel
theorem dX4_admits_110 : decode cX4_admits 110 = .ok (.getfield 21, 3) := by decide +kernel
theorem dX4_admits_113 : decode cX4_admits 113 = .ok (.iload_n 1, 1) := by decide +kernel
theorem dX4_admits_114 : decode cX4_admits 114 = .ok (.iaload, 1) := by decide +kernel
theorem dX4_admits_115 : decode cX4_admits 115 = .ok (.aload_n 0, 1) := by decide +kernel
theorem dX4_admits_116 : decode cX4_admits 116 = .ok (.getfield 52, 3) := by decide +kernel
theorem dX4_admits_119 : decode cX4_admits 119 = .ok (.getfield 76, 3) := by decide +kernel
theorem dX4_admits_122 : decode cX4_admits 122 = .ok (.iload_n 2, 1) := by decide +kernel
theorem dX4_admits_123 : decode cX4_admits 123 = .ok (.iaload, 1) := by decide +kernel
theorem dX4_admits_124 : decode cX4_admits 124 = .ok (.invokestatic 67, 3) := by decide +kernel
theorem dX4_admits_127 : decode cX4_admits 127 = .ok (.aload_n 0, 1) := by decide +kernel
theorem dX4_admits_128 : decode cX4_admits 128 = .ok (.getfield 24, 3) := by decide +kernel
theorem dX4_admits_131 : decode cX4_admits 131 = .ok (.iload_n 1, 1) := by decide +kernel
theorem dX4_admits_132 : decode cX4_admits 132 = .ok (.iaload, 1) := by decide +kernel
theorem dX4_admits_133 : decode cX4_admits 133 = .ok (.aload_n 0, 1) := by decide +kernel
theorem dX4_admits_134 : decode cX4_admits 134 = .ok (.getfield 52, 3) := by decide +kernel
theorem dX4_admits_137 : decode cX4_admits 137 = .ok (.getfield 77, 3) := by decide +kernel
theorem dX4_admits_140 : decode cX4_admits 140 = .ok (.iload_n 2, 1) := by decide +kernel
theorem dX4_admits_141 : decode cX4_admits 141 = .ok (.iaload, 1) := by decide +kernel
theorem dX4_admits_142 : decode cX4_admits 142 = .ok (.invokestatic 73, 3) := by decide +kernel
theorem dX4_admits_145 : decode cX4_admits 145 = .ok (.if_icmp .gt 7, 3) := by decide +kernel
theorem dX4_admits_148 : decode cX4_admits 148 = .ok (.iconst 1, 1) := by decide +kernel
theorem dX4_admits_149 : decode cX4_admits 149 = .ok (.goto 4, 3) := by decide +kernel
theorem dX4_admits_152 : decode cX4_admits 152 = .ok (.iconst 0, 1) := by decide +kernel
theorem dX4_admits_153 : decode cX4_admits 153 = .ok (.ireturn, 1) := by decide +kernel
theorem dX4_added_0 : decode cX4_added 0 = .ok (.iload_n 1, 1) := by decide +kernel
theorem dX4_added_1 : decode cX4_added 1 = .ok (.invokestatic 56, 3) := by decide +kernel
theorem dX4_added_4 : decode cX4_added 4 = .ok (.ifCond .eq 10, 3) := by decide +kernel
theorem dX4_added_7 : decode cX4_added 7 = .ok (.iload_n 2, 1) := by decide +kernel
theorem dX4_added_8 : decode cX4_added 8 = .ok (.invokestatic 56, 3) := by decide +kernel
theorem dX4_added_11 : decode cX4_added 11 = .ok (.ifCond .ne 5, 3) := by decide +kernel
theorem dX4_added_14 : decode cX4_added 14 = .ok (.iconst 0, 1) := by decide +kernel
theorem dX4_added_15 : decode cX4_added 15 = .ok (.ireturn, 1) := by decide +kernel
theorem dX4_added_16 : decode cX4_added 16 = .ok (.iload_n 1, 1) := by decide +kernel
theorem dX4_added_17 : decode cX4_added 17 = .ok (.aload_n 0, 1) := by decide +kernel
theorem dX4_added_18 : decode cX4_added 18 = .ok (.getfield 48, 3) := by decide +kernel
theorem dX4_added_21 : decode cX4_added 21 = .ok (.if_icmp .lt 11, 3) := by decide +kernel
theorem dX4_added_24 : decode cX4_added 24 = .ok (.aload_n 0, 1) := by decide +kernel
theorem dX4_added_25 : decode cX4_added 25 = .ok (.getfield 52, 3) := by decide +kernel
theorem dX4_added_28 : decode cX4_added 28 = .ok (.getfield 78, 3) := by decide +kernel
theorem dX4_added_31 : decode cX4_added 31 = .ok (.ireturn, 1) := by decide +kernel
theorem dX4_added_32 : decode cX4_added 32 = .ok (.iconst 0, 1) := by decide +kernel
theorem dX4_added_33 : decode cX4_added 33 = .ok (.istore_n 3, 1) := by decide +kernel
theorem dX4_added_34 : decode cX4_added 34 = .ok (.iconst 0, 1) := by decide +kernel
theorem dX4_added_35 : decode cX4_added 35 = .ok (.istore 4, 2) := by decide +kernel
theorem dX4_added_37 : decode cX4_added 37 = .ok (.iload 4, 2) := by decide +kernel
theorem dX4_added_39 : decode cX4_added 39 = .ok (.aload_n 0, 1) := by decide +kernel
theorem dX4_added_40 : decode cX4_added 40 = .ok (.getfield 27, 3) := by decide +kernel
theorem dX4_added_43 : decode cX4_added 43 = .ok (.iload_n 1, 1) := by decide +kernel
theorem dX4_added_44 : decode cX4_added 44 = .ok (.iaload, 1) := by decide +kernel
theorem dX4_added_45 : decode cX4_added 45 = .ok (.if_icmp .ge 44, 3) := by decide +kernel
theorem dX4_added_48 : decode cX4_added 48 = .ok (.iload 4, 2) := by decide +kernel
theorem dX4_added_50 : decode cX4_added 50 = .ok (.bipush 14, 2) := by decide +kernel
theorem dX4_added_52 : decode cX4_added 52 = .ok (.if_icmp .ge 37, 3) := by decide +kernel
theorem dX4_added_55 : decode cX4_added 55 = .ok (.iload_n 3, 1) := by decide +kernel
theorem dX4_added_56 : decode cX4_added 56 = .ok (.aload_n 0, 1) := by decide +kernel
theorem dX4_added_57 : decode cX4_added 57 = .ok (.getfield 52, 3) := by decide +kernel
theorem dX4_added_60 : decode cX4_added 60 = .ok (.getfield 81, 3) := by decide +kernel
theorem dX4_added_63 : decode cX4_added 63 = .ok (.iload_n 2, 1) := by decide +kernel
theorem dX4_added_64 : decode cX4_added 64 = .ok (.bipush 14, 2) := by decide +kernel
theorem dX4_added_66 : decode cX4_added 66 = .ok (.imul, 1) := by decide +kernel
theorem dX4_added_67 : decode cX4_added 67 = .ok (.aload_n 0, 1) := by decide +kernel
theorem dX4_added_68 : decode cX4_added 68 = .ok (.getfield 30, 3) := by decide +kernel
theorem dX4_added_71 : decode cX4_added 71 = .ok (.iload_n 1, 1) := by decide +kernel
theorem dX4_added_72 : decode cX4_added 72 = .ok (.bipush 14, 2) := by decide +kernel
theorem dX4_added_74 : decode cX4_added 74 = .ok (.imul, 1) := by decide +kernel
theorem dX4_added_75 : decode cX4_added 75 = .ok (.iload 4, 2) := by decide +kernel
theorem dX4_added_77 : decode cX4_added 77 = .ok (.iadd, 1) := by decide +kernel
theorem dX4_added_78 : decode cX4_added 78 = .ok (.iaload, 1) := by decide +kernel
theorem dX4_added_79 : decode cX4_added 79 = .ok (.iadd, 1) := by decide +kernel
theorem dX4_added_80 : decode cX4_added 80 = .ok (.iaload, 1) := by decide +kernel
theorem dX4_added_81 : decode cX4_added 81 = .ok (.iadd, 1) := by decide +kernel
theorem dX4_added_82 : decode cX4_added 82 = .ok (.istore_n 3, 1) := by decide +kernel
theorem dX4_added_83 : decode cX4_added 83 = .ok (.iinc 4 1, 3) := by decide +kernel
theorem dX4_added_86 : decode cX4_added 86 = .ok (.goto (-49), 3) := by decide +kernel
theorem dX4_added_89 : decode cX4_added 89 = .ok (.iload_n 3, 1) := by decide +kernel
theorem dX4_added_90 : decode cX4_added 90 = .ok (.ireturn, 1) := by decide +kernel
theorem dX4_join_0 : decode cX4_join 0 = .ok (.iload_n 1, 1) := by decide +kernel
theorem dX4_join_1 : decode cX4_join 1 = .ok (.invokestatic 56, 3) := by decide +kernel
theorem dX4_join_4 : decode cX4_join 4 = .ok (.ifCond .eq 10, 3) := by decide +kernel
theorem dX4_join_7 : decode cX4_join 7 = .ok (.iload_n 2, 1) := by decide +kernel
theorem dX4_join_8 : decode cX4_join 8 = .ok (.invokestatic 56, 3) := by decide +kernel
theorem dX4_join_11 : decode cX4_join 11 = .ok (.ifCond .ne 4, 3) := by decide +kernel
theorem dX4_join_14 : decode cX4_join 14 = .ok (.return_, 1) := by decide +kernel
theorem dX4_join_15 : decode cX4_join 15 = .ok (.iload_n 1, 1) := by decide +kernel
theorem dX4_join_16 : decode cX4_join 16 = .ok (.aload_n 0, 1) := by decide +kernel
theorem dX4_join_17 : decode cX4_join 17 = .ok (.getfield 48, 3) := by decide +kernel
theorem dX4_join_20 : decode cX4_join 20 = .ok (.if_icmp .lt 10, 3) := by decide +kernel
theorem dX4_join_23 : decode cX4_join 23 = .ok (.aload_n 0, 1) := by decide +kernel
theorem dX4_join_24 : decode cX4_join 24 = .ok (.iload_n 1, 1) := by decide +kernel
theorem dX4_join_25 : decode cX4_join 25 = .ok (.iload_n 2, 1) := by decide +kernel
theorem dX4_join_26 : decode cX4_join 26 = .ok (.invokevirtual 84, 3) := by decide +kernel
theorem dX4_join_29 : decode cX4_join 29 = .ok (.return_, 1) := by decide +kernel
theorem dX4_join_30 : decode cX4_join 30 = .ok (.aload_n 0, 1) := by decide +kernel
theorem dX4_join_31 : decode cX4_join 31 = .ok (.getfield 27, 3) := by decide +kernel
theorem dX4_join_34 : decode cX4_join 34 = .ok (.iload_n 1, 1) := by decide +kernel
theorem dX4_join_35 : decode cX4_join 35 = .ok (.iaload, 1) := by decide +kernel
theorem dX4_join_36 : decode cX4_join 36 = .ok (.bipush 14, 2) := by decide +kernel
theorem dX4_join_38 : decode cX4_join 38 = .ok (.if_icmp .ge 150, 3) := by decide +kernel
theorem dX4_join_41 : decode cX4_join 41 = .ok (.aload_n 0, 1) := by decide +kernel
theorem dX4_join_42 : decode cX4_join 42 = .ok (.iload_n 1, 1) := by decide +kernel
theorem dX4_join_43 : decode cX4_join 43 = .ok (.iload_n 2, 1) := by decide +kernel
theorem dX4_join_44 : decode cX4_join 44 = .ok (.invokevirtual 88, 3) := by decide +kernel
theorem dX4_join_47 : decode cX4_join 47 = .ok (.aload_n 0, 1) := by decide +kernel
theorem dX4_join_48 : decode cX4_join 48 = .ok (.getfield 9, 3) := by decide +kernel
theorem dX4_join_51 : decode cX4_join 51 = .ok (.iload_n 1, 1) := by decide +kernel
theorem dX4_join_52 : decode cX4_join 52 = .ok (.aload_n 0, 1) := by decide +kernel
theorem dX4_join_53 : decode cX4_join 53 = .ok (.getfield 9, 3) := by decide +kernel
theorem dX4_join_56 : decode cX4_join 56 = .ok (.iload_n 1, 1) := by decide +kernel
theorem dX4_join_57 : decode cX4_join 57 = .ok (.iaload, 1) := by decide +kernel
theorem dX4_join_58 : decode cX4_join 58 = .ok (.aload_n 0, 1) := by decide +kernel
theorem dX4_join_59 : decode cX4_join 59 = .ok (.getfield 52, 3) := by decide +kernel
theorem dX4_join_62 : decode cX4_join 62 = .ok (.getfield 60, 3) := by decide +kernel
theorem dX4_join_65 : decode cX4_join 65 = .ok (.iload_n 2, 1) := by decide +kernel
theorem dX4_join_66 : decode cX4_join 66 = .ok (.iaload, 1) := by decide +kernel
theorem dX4_join_67 : decode cX4_join 67 = .ok (.invokestatic 67, 3) := by decide +kernel
theorem dX4_join_70 : decode cX4_join 70 = .ok (.iastore, 1) := by decide +kernel
theorem dX4_join_71 : decode cX4_join 71 = .ok (.aload_n 0, 1) := by decide +kernel
theorem dX4_join_72 : decode cX4_join 72 = .ok (.getfield 15, 3) := by decide +kernel
theorem dX4_join_75 : decode cX4_join 75 = .ok (.iload_n 1, 1) := by decide +kernel
theorem dX4_join_76 : decode cX4_join 76 = .ok (.aload_n 0, 1) := by decide +kernel
theorem dX4_join_77 : decode cX4_join 77 = .ok (.getfield 15, 3) := by decide +kernel
theorem dX4_join_80 : decode cX4_join 80 = .ok (.iload_n 1, 1) := by decide +kernel
theorem dX4_join_81 : decode cX4_join 81 = .ok (.iaload, 1) := by decide +kernel
theorem dX4_join_82 : decode cX4_join 82 = .ok (.aload_n 0, 1) := by decide +kernel
theorem dX4_join_83 : decode cX4_join 83 = .ok (.getfield 52, 3) := by decide +kernel
theorem dX4_join_86 : decode cX4_join 86 = .ok (.getfield 63, 3) := by decide +kernel
theorem dX4_join_89 : decode cX4_join 89 = .ok (.iload_n 2, 1) := by decide +kernel
theorem dX4_join_90 : decode cX4_join 90 = .ok (.iaload, 1) := by decide +kernel
theorem dX4_join_91 : decode cX4_join 91 = .ok (.invokestatic 73, 3) := by decide +kernel
theorem dX4_join_94 : decode cX4_join 94 = .ok (.iastore, 1) := by decide +kernel
theorem dX4_join_95 : decode cX4_join 95 = .ok (.aload_n 0, 1) := by decide +kernel
theorem dX4_join_96 : decode cX4_join 96 = .ok (.getfield 18, 3) := by decide +kernel
theorem dX4_join_99 : decode cX4_join 99 = .ok (.iload_n 1, 1) := by decide +kernel
theorem dX4_join_100 : decode cX4_join 100 = .ok (.dup2, 1) := by decide +kernel
theorem dX4_join_101 : decode cX4_join 101 = .ok (.iaload, 1) := by decide +kernel
theorem dX4_join_102 : decode cX4_join 102 = .ok (.aload_n 0, 1) := by decide +kernel
theorem dX4_join_103 : decode cX4_join 103 = .ok (.getfield 52, 3) := by decide +kernel
theorem dX4_join_106 : decode cX4_join 106 = .ok (.getfield 91, 3) := by decide +kernel
theorem dX4_join_109 : decode cX4_join 109 = .ok (.iload_n 2, 1) := by decide +kernel
theorem dX4_join_110 : decode cX4_join 110 = .ok (.iaload, 1) := by decide +kernel
theorem dX4_join_111 : decode cX4_join 111 = .ok (.ior, 1) := by decide +kernel
theorem dX4_join_112 : decode cX4_join 112 = .ok (.iastore, 1) := by decide +kernel
theorem dX4_join_113 : decode cX4_join 113 = .ok (.aload_n 0, 1) := by decide +kernel
theorem dX4_join_114 : decode cX4_join 114 = .ok (.getfield 21, 3) := by decide +kernel
theorem dX4_join_117 : decode cX4_join 117 = .ok (.iload_n 1, 1) := by decide +kernel
theorem dX4_join_118 : decode cX4_join 118 = .ok (.aload_n 0, 1) := by decide +kernel
theorem dX4_join_119 : decode cX4_join 119 = .ok (.getfield 21, 3) := by decide +kernel
theorem dX4_join_122 : decode cX4_join 122 = .ok (.iload_n 1, 1) := by decide +kernel
theorem dX4_join_123 : decode cX4_join 123 = .ok (.iaload, 1) := by decide +kernel
theorem dX4_join_124 : decode cX4_join 124 = .ok (.aload_n 0, 1) := by decide +kernel
theorem dX4_join_125 : decode cX4_join 125 = .ok (.getfield 52, 3) := by decide +kernel
theorem dX4_join_128 : decode cX4_join 128 = .ok (.getfield 76, 3) := by decide +kernel
theorem dX4_join_131 : decode cX4_join 131 = .ok (.iload_n 2, 1) := by decide +kernel
theorem dX4_join_132 : decode cX4_join 132 = .ok (.iaload, 1) := by decide +kernel
theorem dX4_join_133 : decode cX4_join 133 = .ok (.invokestatic 67, 3) := by decide +kernel
theorem dX4_join_136 : decode cX4_join 136 = .ok (.iastore, 1) := by decide +kernel
theorem dX4_join_137 : decode cX4_join 137 = .ok (.aload_n 0, 1) := by decide +kernel
theorem dX4_join_138 : decode cX4_join 138 = .ok (.getfield 24, 3) := by decide +kernel
theorem dX4_join_141 : decode cX4_join 141 = .ok (.iload_n 1, 1) := by decide +kernel
theorem dX4_join_142 : decode cX4_join 142 = .ok (.aload_n 0, 1) := by decide +kernel
theorem dX4_join_143 : decode cX4_join 143 = .ok (.getfield 24, 3) := by decide +kernel
theorem dX4_join_146 : decode cX4_join 146 = .ok (.iload_n 1, 1) := by decide +kernel
theorem dX4_join_147 : decode cX4_join 147 = .ok (.iaload, 1) := by decide +kernel
theorem dX4_join_148 : decode cX4_join 148 = .ok (.aload_n 0, 1) := by decide +kernel
theorem dX4_join_149 : decode cX4_join 149 = .ok (.getfield 52, 3) := by decide +kernel
theorem dX4_join_152 : decode cX4_join 152 = .ok (.getfield 77, 3) := by decide +kernel
theorem dX4_join_155 : decode cX4_join 155 = .ok (.iload_n 2, 1) := by decide +kernel
theorem dX4_join_156 : decode cX4_join 156 = .ok (.iaload, 1) := by decide +kernel
theorem dX4_join_157 : decode cX4_join 157 = .ok (.invokestatic 73, 3) := by decide +kernel
theorem dX4_join_160 : decode cX4_join 160 = .ok (.iastore, 1) := by decide +kernel
theorem dX4_join_161 : decode cX4_join 161 = .ok (.aload_n 0, 1) := by decide +kernel
theorem dX4_join_162 : decode cX4_join 162 = .ok (.getfield 30, 3) := by decide +kernel
theorem dX4_join_165 : decode cX4_join 165 = .ok (.iload_n 1, 1) := by decide +kernel
theorem dX4_join_166 : decode cX4_join 166 = .ok (.bipush 14, 2) := by decide +kernel
theorem dX4_join_168 : decode cX4_join 168 = .ok (.imul, 1) := by decide +kernel
theorem dX4_join_169 : decode cX4_join 169 = .ok (.aload_n 0, 1) := by decide +kernel
theorem dX4_join_170 : decode cX4_join 170 = .ok (.getfield 27, 3) := by decide +kernel
theorem dX4_join_173 : decode cX4_join 173 = .ok (.iload_n 1, 1) := by decide +kernel
theorem dX4_join_174 : decode cX4_join 174 = .ok (.iaload, 1) := by decide +kernel
theorem dX4_join_175 : decode cX4_join 175 = .ok (.iadd, 1) := by decide +kernel
theorem dX4_join_176 : decode cX4_join 176 = .ok (.iload_n 2, 1) := by decide +kernel
theorem dX4_join_177 : decode cX4_join 177 = .ok (.iastore, 1) := by decide +kernel
theorem dX4_join_178 : decode cX4_join 178 = .ok (.aload_n 0, 1) := by decide +kernel
theorem dX4_join_179 : decode cX4_join 179 = .ok (.getfield 27, 3) := by decide +kernel
theorem dX4_join_182 : decode cX4_join 182 = .ok (.iload_n 1, 1) := by decide +kernel
theorem dX4_join_183 : decode cX4_join 183 = .ok (.dup2, 1) := by decide +kernel
theorem dX4_join_184 : decode cX4_join 184 = .ok (.iaload, 1) := by decide +kernel
theorem dX4_join_185 : decode cX4_join 185 = .ok (.iconst 1, 1) := by decide +kernel
theorem dX4_join_186 : decode cX4_join 186 = .ok (.iadd, 1) := by decide +kernel
theorem dX4_join_187 : decode cX4_join 187 = .ok (.iastore, 1) := by decide +kernel
theorem dX4_join_188 : decode cX4_join 188 = .ok (.return_, 1) := by decide +kernel
theorem dX4_start_0 : decode cX4_start 0 = .ok (.aload_n 0, 1) := by decide +kernel
theorem dX4_start_1 : decode cX4_start 1 = .ok (.getfield 9, 3) := by decide +kernel
theorem dX4_start_4 : decode cX4_start 4 = .ok (.iload_n 1, 1) := by decide +kernel
theorem dX4_start_5 : decode cX4_start 5 = .ok (.aload_n 0, 1) := by decide +kernel
theorem dX4_start_6 : decode cX4_start 6 = .ok (.getfield 52, 3) := by decide +kernel
theorem dX4_start_9 : decode cX4_start 9 = .ok (.getfield 60, 3) := by decide +kernel
theorem dX4_start_12 : decode cX4_start 12 = .ok (.iload_n 2, 1) := by decide +kernel
theorem dX4_start_13 : decode cX4_start 13 = .ok (.iaload, 1) := by decide +kernel
theorem dX4_start_14 : decode cX4_start 14 = .ok (.iastore, 1) := by decide +kernel
theorem dX4_start_15 : decode cX4_start 15 = .ok (.aload_n 0, 1) := by decide +kernel
theorem dX4_start_16 : decode cX4_start 16 = .ok (.getfield 15, 3) := by decide +kernel
theorem dX4_start_19 : decode cX4_start 19 = .ok (.iload_n 1, 1) := by decide +kernel
theorem dX4_start_20 : decode cX4_start 20 = .ok (.aload_n 0, 1) := by decide +kernel
theorem dX4_start_21 : decode cX4_start 21 = .ok (.getfield 52, 3) := by decide +kernel
theorem dX4_start_24 : decode cX4_start 24 = .ok (.getfield 63, 3) := by decide +kernel
theorem dX4_start_27 : decode cX4_start 27 = .ok (.iload_n 2, 1) := by decide +kernel
theorem dX4_start_28 : decode cX4_start 28 = .ok (.iaload, 1) := by decide +kernel
theorem dX4_start_29 : decode cX4_start 29 = .ok (.iastore, 1) := by decide +kernel
theorem dX4_start_30 : decode cX4_start 30 = .ok (.aload_n 0, 1) := by decide +kernel
theorem dX4_start_31 : decode cX4_start 31 = .ok (.getfield 18, 3) := by decide +kernel
theorem dX4_start_34 : decode cX4_start 34 = .ok (.iload_n 1, 1) := by decide +kernel
theorem dX4_start_35 : decode cX4_start 35 = .ok (.aload_n 0, 1) := by decide +kernel
theorem dX4_start_36 : decode cX4_start 36 = .ok (.getfield 52, 3) := by decide +kernel
theorem dX4_start_39 : decode cX4_start 39 = .ok (.getfield 91, 3) := by decide +kernel
theorem dX4_start_42 : decode cX4_start 42 = .ok (.iload_n 2, 1) := by decide +kernel
theorem dX4_start_43 : decode cX4_start 43 = .ok (.iaload, 1) := by decide +kernel
theorem dX4_start_44 : decode cX4_start 44 = .ok (.iastore, 1) := by decide +kernel
theorem dX4_start_45 : decode cX4_start 45 = .ok (.aload_n 0, 1) := by decide +kernel
theorem dX4_start_46 : decode cX4_start 46 = .ok (.getfield 21, 3) := by decide +kernel
theorem dX4_start_49 : decode cX4_start 49 = .ok (.iload_n 1, 1) := by decide +kernel
theorem dX4_start_50 : decode cX4_start 50 = .ok (.aload_n 0, 1) := by decide +kernel
theorem dX4_start_51 : decode cX4_start 51 = .ok (.getfield 52, 3) := by decide +kernel
theorem dX4_start_54 : decode cX4_start 54 = .ok (.getfield 76, 3) := by decide +kernel
theorem dX4_start_57 : decode cX4_start 57 = .ok (.iload_n 2, 1) := by decide +kernel
theorem dX4_start_58 : decode cX4_start 58 = .ok (.iaload, 1) := by decide +kernel
theorem dX4_start_59 : decode cX4_start 59 = .ok (.iastore, 1) := by decide +kernel
theorem dX4_start_60 : decode cX4_start 60 = .ok (.aload_n 0, 1) := by decide +kernel
theorem dX4_start_61 : decode cX4_start 61 = .ok (.getfield 24, 3) := by decide +kernel
theorem dX4_start_64 : decode cX4_start 64 = .ok (.iload_n 1, 1) := by decide +kernel
theorem dX4_start_65 : decode cX4_start 65 = .ok (.aload_n 0, 1) := by decide +kernel
theorem dX4_start_66 : decode cX4_start 66 = .ok (.getfield 52, 3) := by decide +kernel
theorem dX4_start_69 : decode cX4_start 69 = .ok (.getfield 77, 3) := by decide +kernel
theorem dX4_start_72 : decode cX4_start 72 = .ok (.iload_n 2, 1) := by decide +kernel
theorem dX4_start_73 : decode cX4_start 73 = .ok (.iaload, 1) := by decide +kernel
theorem dX4_start_74 : decode cX4_start 74 = .ok (.iastore, 1) := by decide +kernel
theorem dX4_start_75 : decode cX4_start 75 = .ok (.aload_n 0, 1) := by decide +kernel
theorem dX4_start_76 : decode cX4_start 76 = .ok (.getfield 30, 3) := by decide +kernel
theorem dX4_start_79 : decode cX4_start 79 = .ok (.iload_n 1, 1) := by decide +kernel
theorem dX4_start_80 : decode cX4_start 80 = .ok (.bipush 14, 2) := by decide +kernel
theorem dX4_start_82 : decode cX4_start 82 = .ok (.imul, 1) := by decide +kernel
theorem dX4_start_83 : decode cX4_start 83 = .ok (.iload_n 2, 1) := by decide +kernel
theorem dX4_start_84 : decode cX4_start 84 = .ok (.iastore, 1) := by decide +kernel
theorem dX4_start_85 : decode cX4_start 85 = .ok (.aload_n 0, 1) := by decide +kernel
theorem dX4_start_86 : decode cX4_start 86 = .ok (.getfield 27, 3) := by decide +kernel
theorem dX4_start_89 : decode cX4_start 89 = .ok (.iload_n 1, 1) := by decide +kernel
theorem dX4_start_90 : decode cX4_start 90 = .ok (.iconst 1, 1) := by decide +kernel
theorem dX4_start_91 : decode cX4_start 91 = .ok (.iastore, 1) := by decide +kernel
theorem dX4_start_92 : decode cX4_start 92 = .ok (.aload_n 0, 1) := by decide +kernel
theorem dX4_start_93 : decode cX4_start 93 = .ok (.iload_n 1, 1) := by decide +kernel
theorem dX4_start_94 : decode cX4_start 94 = .ok (.iconst 1, 1) := by decide +kernel
theorem dX4_start_95 : decode cX4_start 95 = .ok (.iadd, 1) := by decide +kernel
theorem dX4_start_96 : decode cX4_start 96 = .ok (.putfield 48, 3) := by decide +kernel
theorem dX4_start_99 : decode cX4_start 99 = .ok (.return_, 1) := by decide +kernel
theorem dX4_keepOld_0 : decode cX4_keepOld 0 = .ok (.aload_n 0, 1) := by decide +kernel
theorem dX4_keepOld_1 : decode cX4_keepOld 1 = .ok (.getfield 33, 3) := by decide +kernel
theorem dX4_keepOld_4 : decode cX4_keepOld 4 = .ok (.iload_n 2, 1) := by decide +kernel
theorem dX4_keepOld_5 : decode cX4_keepOld 5 = .ok (.aload_n 0, 1) := by decide +kernel
theorem dX4_keepOld_6 : decode cX4_keepOld 6 = .ok (.getfield 9, 3) := by decide +kernel
theorem dX4_keepOld_9 : decode cX4_keepOld 9 = .ok (.iload_n 1, 1) := by decide +kernel
theorem dX4_keepOld_10 : decode cX4_keepOld 10 = .ok (.iaload, 1) := by decide +kernel
theorem dX4_keepOld_11 : decode cX4_keepOld 11 = .ok (.iastore, 1) := by decide +kernel
theorem dX4_keepOld_12 : decode cX4_keepOld 12 = .ok (.aload_n 0, 1) := by decide +kernel
theorem dX4_keepOld_13 : decode cX4_keepOld 13 = .ok (.getfield 36, 3) := by decide +kernel
theorem dX4_keepOld_16 : decode cX4_keepOld 16 = .ok (.iload_n 2, 1) := by decide +kernel
theorem dX4_keepOld_17 : decode cX4_keepOld 17 = .ok (.aload_n 0, 1) := by decide +kernel
theorem dX4_keepOld_18 : decode cX4_keepOld 18 = .ok (.getfield 15, 3) := by decide +kernel
theorem dX4_keepOld_21 : decode cX4_keepOld 21 = .ok (.iload_n 1, 1) := by decide +kernel
theorem dX4_keepOld_22 : decode cX4_keepOld 22 = .ok (.iaload, 1) := by decide +kernel
theorem dX4_keepOld_23 : decode cX4_keepOld 23 = .ok (.iastore, 1) := by decide +kernel
theorem dX4_keepOld_24 : decode cX4_keepOld 24 = .ok (.aload_n 0, 1) := by decide +kernel
theorem dX4_keepOld_25 : decode cX4_keepOld 25 = .ok (.getfield 39, 3) := by decide +kernel
theorem dX4_keepOld_28 : decode cX4_keepOld 28 = .ok (.iload_n 2, 1) := by decide +kernel
theorem dX4_keepOld_29 : decode cX4_keepOld 29 = .ok (.aload_n 0, 1) := by decide +kernel
theorem dX4_keepOld_30 : decode cX4_keepOld 30 = .ok (.getfield 18, 3) := by decide +kernel
theorem dX4_keepOld_33 : decode cX4_keepOld 33 = .ok (.iload_n 1, 1) := by decide +kernel
theorem dX4_keepOld_34 : decode cX4_keepOld 34 = .ok (.iaload, 1) := by decide +kernel
theorem dX4_keepOld_35 : decode cX4_keepOld 35 = .ok (.iastore, 1) := by decide +kernel
theorem dX4_keepOld_36 : decode cX4_keepOld 36 = .ok (.aload_n 0, 1) := by decide +kernel
theorem dX4_keepOld_37 : decode cX4_keepOld 37 = .ok (.getfield 42, 3) := by decide +kernel
theorem dX4_keepOld_40 : decode cX4_keepOld 40 = .ok (.iload_n 2, 1) := by decide +kernel
theorem dX4_keepOld_41 : decode cX4_keepOld 41 = .ok (.aload_n 0, 1) := by decide +kernel
theorem dX4_keepOld_42 : decode cX4_keepOld 42 = .ok (.getfield 21, 3) := by decide +kernel
theorem dX4_keepOld_45 : decode cX4_keepOld 45 = .ok (.iload_n 1, 1) := by decide +kernel
theorem dX4_keepOld_46 : decode cX4_keepOld 46 = .ok (.iaload, 1) := by decide +kernel
theorem dX4_keepOld_47 : decode cX4_keepOld 47 = .ok (.iastore, 1) := by decide +kernel
theorem dX4_keepOld_48 : decode cX4_keepOld 48 = .ok (.aload_n 0, 1) := by decide +kernel
theorem dX4_keepOld_49 : decode cX4_keepOld 49 = .ok (.getfield 45, 3) := by decide +kernel
theorem dX4_keepOld_52 : decode cX4_keepOld 52 = .ok (.iload_n 2, 1) := by decide +kernel
theorem dX4_keepOld_53 : decode cX4_keepOld 53 = .ok (.aload_n 0, 1) := by decide +kernel
theorem dX4_keepOld_54 : decode cX4_keepOld 54 = .ok (.getfield 24, 3) := by decide +kernel
theorem dX4_keepOld_57 : decode cX4_keepOld 57 = .ok (.iload_n 1, 1) := by decide +kernel
theorem dX4_keepOld_58 : decode cX4_keepOld 58 = .ok (.iaload, 1) := by decide +kernel
theorem dX4_keepOld_59 : decode cX4_keepOld 59 = .ok (.iastore, 1) := by decide +kernel
theorem dX4_keepOld_60 : decode cX4_keepOld 60 = .ok (.return_, 1) := by decide +kernel
theorem dX4_leave_0 : decode cX4_leave 0 = .ok (.iload_n 1, 1) := by decide +kernel
theorem dX4_leave_1 : decode cX4_leave 1 = .ok (.invokestatic 56, 3) := by decide +kernel
theorem dX4_leave_4 : decode cX4_leave 4 = .ok (.ifCond .eq 18, 3) := by decide +kernel
theorem dX4_leave_7 : decode cX4_leave 7 = .ok (.iload_n 2, 1) := by decide +kernel
theorem dX4_leave_8 : decode cX4_leave 8 = .ok (.invokestatic 56, 3) := by decide +kernel
theorem dX4_leave_11 : decode cX4_leave 11 = .ok (.ifCond .eq 11, 3) := by decide +kernel
theorem dX4_leave_14 : decode cX4_leave 14 = .ok (.iload_n 1, 1) := by decide +kernel
theorem dX4_leave_15 : decode cX4_leave 15 = .ok (.aload_n 0, 1) := by decide +kernel
theorem dX4_leave_16 : decode cX4_leave 16 = .ok (.getfield 48, 3) := by decide +kernel
theorem dX4_leave_19 : decode cX4_leave 19 = .ok (.if_icmp .lt 4, 3) := by decide +kernel
theorem dX4_leave_22 : decode cX4_leave 22 = .ok (.return_, 1) := by decide +kernel
theorem dX4_leave_23 : decode cX4_leave 23 = .ok (.aload_n 0, 1) := by decide +kernel
theorem dX4_leave_24 : decode cX4_leave 24 = .ok (.getfield 27, 3) := by decide +kernel
theorem dX4_leave_27 : decode cX4_leave 27 = .ok (.iload_n 1, 1) := by decide +kernel
theorem dX4_leave_28 : decode cX4_leave 28 = .ok (.iaload, 1) := by decide +kernel
theorem dX4_leave_29 : decode cX4_leave 29 = .ok (.iconst 1, 1) := by decide +kernel
theorem dX4_leave_30 : decode cX4_leave 30 = .ok (.if_icmp .gt 9, 3) := by decide +kernel
theorem dX4_leave_33 : decode cX4_leave 33 = .ok (.aload_n 0, 1) := by decide +kernel
theorem dX4_leave_34 : decode cX4_leave 34 = .ok (.iload_n 1, 1) := by decide +kernel
theorem dX4_leave_35 : decode cX4_leave 35 = .ok (.putfield 48, 3) := by decide +kernel
theorem dX4_leave_38 : decode cX4_leave 38 = .ok (.return_, 1) := by decide +kernel
theorem dX4_leave_39 : decode cX4_leave 39 = .ok (.aload_n 0, 1) := by decide +kernel
theorem dX4_leave_40 : decode cX4_leave 40 = .ok (.getfield 9, 3) := by decide +kernel
theorem dX4_leave_43 : decode cX4_leave 43 = .ok (.iload_n 1, 1) := by decide +kernel
theorem dX4_leave_44 : decode cX4_leave 44 = .ok (.aload_n 0, 1) := by decide +kernel
theorem dX4_leave_45 : decode cX4_leave 45 = .ok (.getfield 33, 3) := by decide +kernel
theorem dX4_leave_48 : decode cX4_leave 48 = .ok (.iload_n 2, 1) := by decide +kernel
theorem dX4_leave_49 : decode cX4_leave 49 = .ok (.iaload, 1) := by decide +kernel
theorem dX4_leave_50 : decode cX4_leave 50 = .ok (.iastore, 1) := by decide +kernel
theorem dX4_leave_51 : decode cX4_leave 51 = .ok (.aload_n 0, 1) := by decide +kernel
theorem dX4_leave_52 : decode cX4_leave 52 = .ok (.getfield 15, 3) := by decide +kernel
theorem dX4_leave_55 : decode cX4_leave 55 = .ok (.iload_n 1, 1) := by decide +kernel
theorem dX4_leave_56 : decode cX4_leave 56 = .ok (.aload_n 0, 1) := by decide +kernel
theorem dX4_leave_57 : decode cX4_leave 57 = .ok (.getfield 36, 3) := by decide +kernel
theorem dX4_leave_60 : decode cX4_leave 60 = .ok (.iload_n 2, 1) := by decide +kernel
theorem dX4_leave_61 : decode cX4_leave 61 = .ok (.iaload, 1) := by decide +kernel
theorem dX4_leave_62 : decode cX4_leave 62 = .ok (.iastore, 1) := by decide +kernel
theorem dX4_leave_63 : decode cX4_leave 63 = .ok (.aload_n 0, 1) := by decide +kernel
theorem dX4_leave_64 : decode cX4_leave 64 = .ok (.getfield 18, 3) := by decide +kernel
theorem dX4_leave_67 : decode cX4_leave 67 = .ok (.iload_n 1, 1) := by decide +kernel
theorem dX4_leave_68 : decode cX4_leave 68 = .ok (.aload_n 0, 1) := by decide +kernel
theorem dX4_leave_69 : decode cX4_leave 69 = .ok (.getfield 39, 3) := by decide +kernel
theorem dX4_leave_72 : decode cX4_leave 72 = .ok (.iload_n 2, 1) := by decide +kernel
theorem dX4_leave_73 : decode cX4_leave 73 = .ok (.iaload, 1) := by decide +kernel
theorem dX4_leave_74 : decode cX4_leave 74 = .ok (.iastore, 1) := by decide +kernel
theorem dX4_leave_75 : decode cX4_leave 75 = .ok (.aload_n 0, 1) := by decide +kernel
theorem dX4_leave_76 : decode cX4_leave 76 = .ok (.getfield 21, 3) := by decide +kernel
theorem dX4_leave_79 : decode cX4_leave 79 = .ok (.iload_n 1, 1) := by decide +kernel
theorem dX4_leave_80 : decode cX4_leave 80 = .ok (.aload_n 0, 1) := by decide +kernel
theorem dX4_leave_81 : decode cX4_leave 81 = .ok (.getfield 42, 3) := by decide +kernel
theorem dX4_leave_84 : decode cX4_leave 84 = .ok (.iload_n 2, 1) := by decide +kernel
theorem dX4_leave_85 : decode cX4_leave 85 = .ok (.iaload, 1) := by decide +kernel
theorem dX4_leave_86 : decode cX4_leave 86 = .ok (.iastore, 1) := by decide +kernel
theorem dX4_leave_87 : decode cX4_leave 87 = .ok (.aload_n 0, 1) := by decide +kernel
theorem dX4_leave_88 : decode cX4_leave 88 = .ok (.getfield 24, 3) := by decide +kernel
theorem dX4_leave_91 : decode cX4_leave 91 = .ok (.iload_n 1, 1) := by decide +kernel
theorem dX4_leave_92 : decode cX4_leave 92 = .ok (.aload_n 0, 1) := by decide +kernel
theorem dX4_leave_93 : decode cX4_leave 93 = .ok (.getfield 45, 3) := by decide +kernel
theorem dX4_leave_96 : decode cX4_leave 96 = .ok (.iload_n 2, 1) := by decide +kernel
theorem dX4_leave_97 : decode cX4_leave 97 = .ok (.iaload, 1) := by decide +kernel
theorem dX4_leave_98 : decode cX4_leave 98 = .ok (.iastore, 1) := by decide +kernel
theorem dX4_leave_99 : decode cX4_leave 99 = .ok (.aload_n 0, 1) := by decide +kernel
theorem dX4_leave_100 : decode cX4_leave 100 = .ok (.getfield 27, 3) := by decide +kernel
theorem dX4_leave_103 : decode cX4_leave 103 = .ok (.iload_n 1, 1) := by decide +kernel
theorem dX4_leave_104 : decode cX4_leave 104 = .ok (.dup2, 1) := by decide +kernel
theorem dX4_leave_105 : decode cX4_leave 105 = .ok (.iaload, 1) := by decide +kernel
theorem dX4_leave_106 : decode cX4_leave 106 = .ok (.iconst 1, 1) := by decide +kernel
theorem dX4_leave_107 : decode cX4_leave 107 = .ok (.isub, 1) := by decide +kernel
theorem dX4_leave_108 : decode cX4_leave 108 = .ok (.iastore, 1) := by decide +kernel
theorem dX4_leave_109 : decode cX4_leave 109 = .ok (.return_, 1) := by decide +kernel
theorem dX5_init_0 : decode cX5_init 0 = .ok (.aload_n 0, 1) := by decide +kernel
theorem dX5_init_1 : decode cX5_init 1 = .ok (.invokespecial 3, 3) := by decide +kernel
theorem dX5_init_4 : decode cX5_init 4 = .ok (.aload_n 0, 1) := by decide +kernel
theorem dX5_init_5 : decode cX5_init 5 = .ok (.bipush 14, 2) := by decide +kernel
theorem dX5_init_7 : decode cX5_init 7 = .ok (.putfield 9, 3) := by decide +kernel
theorem dX5_init_10 : decode cX5_init 10 = .ok (.aload_n 0, 1) := by decide +kernel
theorem dX5_init_11 : decode cX5_init 11 = .ok (.bipush 50, 2) := by decide +kernel
theorem dX5_init_13 : decode cX5_init 13 = .ok (.putfield 15, 3) := by decide +kernel
theorem dX5_init_16 : decode cX5_init 16 = .ok (.aload_n 0, 1) := by decide +kernel
theorem dX5_init_17 : decode cX5_init 17 = .ok (.bipush 70, 2) := by decide +kernel
theorem dX5_init_19 : decode cX5_init 19 = .ok (.putfield 18, 3) := by decide +kernel
theorem dX5_init_22 : decode cX5_init 22 = .ok (.aload_n 0, 1) := by decide +kernel
theorem dX5_init_23 : decode cX5_init 23 = .ok (.bipush 100, 2) := by decide +kernel
theorem dX5_init_25 : decode cX5_init 25 = .ok (.putfield 21, 3) := by decide +kernel
theorem dX5_init_28 : decode cX5_init 28 = .ok (.aload_n 0, 1) := by decide +kernel
theorem dX5_init_29 : decode cX5_init 29 = .ok (.iconst 2, 1) := by decide +kernel
theorem dX5_init_30 : decode cX5_init 30 = .ok (.putfield 24, 3) := by decide +kernel
theorem dX5_init_33 : decode cX5_init 33 = .ok (.aload_n 0, 1) := by decide +kernel
theorem dX5_init_34 : decode cX5_init 34 = .ok (.iconst 0, 1) := by decide +kernel
theorem dX5_init_35 : decode cX5_init 35 = .ok (.putfield 27, 3) := by decide +kernel
theorem dX5_init_38 : decode cX5_init 38 = .ok (.aload_n 0, 1) := by decide +kernel
theorem dX5_init_39 : decode cX5_init 39 = .ok (.iconst 0, 1) := by decide +kernel
theorem dX5_init_40 : decode cX5_init 40 = .ok (.putfield 30, 3) := by decide +kernel
theorem dX5_init_43 : decode cX5_init 43 = .ok (.return_, 1) := by decide +kernel
theorem dX5_setLaws_0 : decode cX5_setLaws 0 = .ok (.iload_n 1, 1) := by decide +kernel
theorem dX5_setLaws_1 : decode cX5_setLaws 1 = .ok (.ifCond .lt 61, 3) := by decide +kernel
theorem dX5_setLaws_4 : decode cX5_setLaws 4 = .ok (.iload_n 1, 1) := by decide +kernel
theorem dX5_setLaws_5 : decode cX5_setLaws 5 = .ok (.bipush 40, 2) := by decide +kernel
theorem dX5_setLaws_7 : decode cX5_setLaws 7 = .ok (.if_icmp .gt 55, 3) := by decide +kernel
theorem dX5_setLaws_10 : decode cX5_setLaws 10 = .ok (.iload_n 2, 1) := by decide +kernel
theorem dX5_setLaws_11 : decode cX5_setLaws 11 = .ok (.iload_n 1, 1) := by decide +kernel
theorem dX5_setLaws_12 : decode cX5_setLaws 12 = .ok (.if_icmp .lt 50, 3) := by decide +kernel
theorem dX5_setLaws_15 : decode cX5_setLaws 15 = .ok (.iload_n 2, 1) := by decide +kernel
theorem dX5_setLaws_16 : decode cX5_setLaws 16 = .ok (.bipush 80, 2) := by decide +kernel
theorem dX5_setLaws_18 : decode cX5_setLaws 18 = .ok (.if_icmp .gt 44, 3) := by decide +kernel
theorem dX5_setLaws_21 : decode cX5_setLaws 21 = .ok (.iload_n 3, 1) := by decide +kernel
theorem dX5_setLaws_22 : decode cX5_setLaws 22 = .ok (.iload_n 1, 1) := by decide +kernel
theorem dX5_setLaws_23 : decode cX5_setLaws 23 = .ok (.if_icmp .lt 39, 3) := by decide +kernel
theorem dX5_setLaws_26 : decode cX5_setLaws 26 = .ok (.iload_n 3, 1) := by decide +kernel
theorem dX5_setLaws_27 : decode cX5_setLaws 27 = .ok (.bipush 120, 2) := by decide +kernel
theorem dX5_setLaws_29 : decode cX5_setLaws 29 = .ok (.if_icmp .gt 33, 3) := by decide +kernel
theorem dX5_setLaws_32 : decode cX5_setLaws 32 = .ok (.iload 4, 2) := by decide +kernel
theorem dX5_setLaws_34 : decode cX5_setLaws 34 = .ok (.iconst 1, 1) := by decide +kernel
theorem dX5_setLaws_35 : decode cX5_setLaws 35 = .ok (.if_icmp .lt 27, 3) := by decide +kernel
theorem dX5_setLaws_38 : decode cX5_setLaws 38 = .ok (.iload 4, 2) := by decide +kernel
theorem dX5_setLaws_40 : decode cX5_setLaws 40 = .ok (.sipush 130, 3) := by decide +kernel
theorem dX5_setLaws_43 : decode cX5_setLaws 43 = .ok (.if_icmp .gt 19, 3) := by decide +kernel
theorem dX5_setLaws_46 : decode cX5_setLaws 46 = .ok (.iload 5, 2) := by decide +kernel
theorem dX5_setLaws_48 : decode cX5_setLaws 48 = .ok (.ifCond .lt 14, 3) := by decide +kernel
theorem dX5_setLaws_51 : decode cX5_setLaws 51 = .ok (.iload 5, 2) := by decide +kernel
theorem dX5_setLaws_53 : decode cX5_setLaws 53 = .ok (.bipush 20, 2) := by decide +kernel
theorem dX5_setLaws_55 : decode cX5_setLaws 55 = .ok (.if_icmp .gt 7, 3) := by decide +kernel
theorem dX5_setLaws_58 : decode cX5_setLaws 58 = .ok (.iconst 1, 1) := by decide +kernel
theorem dX5_setLaws_59 : decode cX5_setLaws 59 = .ok (.goto 4, 3) := by decide +kernel
theorem dX5_setLaws_62 : decode cX5_setLaws 62 = .ok (.iconst 0, 1) := by decide +kernel
theorem dX5_setLaws_63 : decode cX5_setLaws 63 = .ok (.istore 6, 2) := by decide +kernel
theorem dX5_setLaws_65 : decode cX5_setLaws 65 = .ok (.iload 6, 2) := by decide +kernel
theorem dX5_setLaws_67 : decode cX5_setLaws 67 = .ok (.ifCond .eq 30, 3) := by decide +kernel
theorem dX5_setLaws_70 : decode cX5_setLaws 70 = .ok (.aload_n 0, 1) := by decide +kernel
theorem dX5_setLaws_71 : decode cX5_setLaws 71 = .ok (.iload_n 1, 1) := by decide +kernel
theorem dX5_setLaws_72 : decode cX5_setLaws 72 = .ok (.putfield 9, 3) := by decide +kernel
theorem dX5_setLaws_75 : decode cX5_setLaws 75 = .ok (.aload_n 0, 1) := by decide +kernel
theorem dX5_setLaws_76 : decode cX5_setLaws 76 = .ok (.iload_n 2, 1) := by decide +kernel
theorem dX5_setLaws_77 : decode cX5_setLaws 77 = .ok (.putfield 15, 3) := by decide +kernel
theorem dX5_setLaws_80 : decode cX5_setLaws 80 = .ok (.aload_n 0, 1) := by decide +kernel
theorem dX5_setLaws_81 : decode cX5_setLaws 81 = .ok (.iload_n 3, 1) := by decide +kernel
theorem dX5_setLaws_82 : decode cX5_setLaws 82 = .ok (.putfield 18, 3) := by decide +kernel
theorem dX5_setLaws_85 : decode cX5_setLaws 85 = .ok (.aload_n 0, 1) := by decide +kernel
theorem dX5_setLaws_86 : decode cX5_setLaws 86 = .ok (.iload 4, 2) := by decide +kernel
theorem dX5_setLaws_88 : decode cX5_setLaws 88 = .ok (.putfield 21, 3) := by decide +kernel
theorem dX5_setLaws_91 : decode cX5_setLaws 91 = .ok (.aload_n 0, 1) := by decide +kernel
theorem dX5_setLaws_92 : decode cX5_setLaws 92 = .ok (.iload 5, 2) := by decide +kernel
theorem dX5_setLaws_94 : decode cX5_setLaws 94 = .ok (.putfield 24, 3) := by decide +kernel
theorem dX5_setLaws_97 : decode cX5_setLaws 97 = .ok (.iload 6, 2) := by decide +kernel
theorem dX5_setLaws_99 : decode cX5_setLaws 99 = .ok (.ireturn, 1) := by decide +kernel
theorem dX5_setBudget_0 : decode cX5_setBudget 0 = .ok (.iload_n 1, 1) := by decide +kernel
theorem dX5_setBudget_1 : decode cX5_setBudget 1 = .ok (.ifCond .lt 24, 3) := by decide +kernel
theorem dX5_setBudget_4 : decode cX5_setBudget 4 = .ok (.iload_n 1, 1) := by decide +kernel
theorem dX5_setBudget_5 : decode cX5_setBudget 5 = .ok (.sipush 300, 3) := by decide +kernel
theorem dX5_setBudget_8 : decode cX5_setBudget 8 = .ok (.if_icmp .gt 17, 3) := by decide +kernel
theorem dX5_setBudget_11 : decode cX5_setBudget 11 = .ok (.iload_n 2, 1) := by decide +kernel
theorem dX5_setBudget_12 : decode cX5_setBudget 12 = .ok (.ifCond .lt 13, 3) := by decide +kernel
theorem dX5_setBudget_15 : decode cX5_setBudget 15 = .ok (.iload_n 2, 1) := by decide +kernel
theorem dX5_setBudget_16 : decode cX5_setBudget 16 = .ok (.bipush 20, 2) := by decide +kernel
theorem dX5_setBudget_18 : decode cX5_setBudget 18 = .ok (.if_icmp .gt 7, 3) := by decide +kernel
theorem dX5_setBudget_21 : decode cX5_setBudget 21 = .ok (.iconst 1, 1) := by decide +kernel
theorem dX5_setBudget_22 : decode cX5_setBudget 22 = .ok (.goto 4, 3) := by decide +kernel
theorem dX5_setBudget_25 : decode cX5_setBudget 25 = .ok (.iconst 0, 1) := by decide +kernel
theorem dX5_setBudget_26 : decode cX5_setBudget 26 = .ok (.istore_n 3, 1) := by decide +kernel
theorem dX5_setBudget_27 : decode cX5_setBudget 27 = .ok (.iload_n 3, 1) := by decide +kernel
theorem dX5_setBudget_28 : decode cX5_setBudget 28 = .ok (.ifCond .eq 13, 3) := by decide +kernel
theorem dX5_setBudget_31 : decode cX5_setBudget 31 = .ok (.aload_n 0, 1) := by decide +kernel
theorem dX5_setBudget_32 : decode cX5_setBudget 32 = .ok (.iload_n 1, 1) := by decide +kernel
theorem dX5_setBudget_33 : decode cX5_setBudget 33 = .ok (.putfield 27, 3) := by decide +kernel
theorem dX5_setBudget_36 : decode cX5_setBudget 36 = .ok (.aload_n 0, 1) := by decide +kernel
theorem dX5_setBudget_37 : decode cX5_setBudget 37 = .ok (.iload_n 2, 1) := by decide +kernel
theorem dX5_setBudget_38 : decode cX5_setBudget 38 = .ok (.putfield 30, 3) := by decide +kernel
theorem dX5_setBudget_41 : decode cX5_setBudget 41 = .ok (.iload_n 3, 1) := by decide +kernel
theorem dX5_setBudget_42 : decode cX5_setBudget 42 = .ok (.ireturn, 1) := by decide +kernel
theorem dX5_earliestBirth_0 : decode cX5_earliestBirth 0 = .ok (.iload_n 1, 1) := by decide +kernel
theorem dX5_earliestBirth_1 : decode cX5_earliestBirth 1 = .ok (.tableswitch 104 0 6 #[43, 45, 52, 104, 104, 59, 79], 43) := by decide +kernel
theorem dX5_earliestBirth_44 : decode cX5_earliestBirth 44 = .ok (.iload_n 2, 1) := by decide +kernel
theorem dX5_earliestBirth_45 : decode cX5_earliestBirth 45 = .ok (.ireturn, 1) := by decide +kernel
theorem dX5_earliestBirth_46 : decode cX5_earliestBirth 46 = .ok (.iload_n 2, 1) := by decide +kernel
theorem dX5_earliestBirth_47 : decode cX5_earliestBirth 47 = .ok (.aload_n 0, 1) := by decide +kernel
theorem dX5_earliestBirth_48 : decode cX5_earliestBirth 48 = .ok (.getfield 15, 3) := by decide +kernel
theorem dX5_earliestBirth_51 : decode cX5_earliestBirth 51 = .ok (.isub, 1) := by decide +kernel
theorem dX5_earliestBirth_52 : decode cX5_earliestBirth 52 = .ok (.ireturn, 1) := by decide +kernel
theorem dX5_earliestBirth_53 : decode cX5_earliestBirth 53 = .ok (.iload_n 2, 1) := by decide +kernel
theorem dX5_earliestBirth_54 : decode cX5_earliestBirth 54 = .ok (.aload_n 0, 1) := by decide +kernel
theorem dX5_earliestBirth_55 : decode cX5_earliestBirth 55 = .ok (.getfield 18, 3) := by decide +kernel
theorem dX5_earliestBirth_58 : decode cX5_earliestBirth 58 = .ok (.isub, 1) := by decide +kernel
theorem dX5_earliestBirth_59 : decode cX5_earliestBirth 59 = .ok (.ireturn, 1) := by decide +kernel
theorem dX5_earliestBirth_60 : decode cX5_earliestBirth 60 = .ok (.iload_n 3, 1) := by decide +kernel
theorem dX5_earliestBirth_61 : decode cX5_earliestBirth 61 = .ok (.iconst (-1), 1) := by decide +kernel
theorem dX5_earliestBirth_62 : decode cX5_earliestBirth 62 = .ok (.if_icmp .ne 12, 3) := by decide +kernel
theorem dX5_earliestBirth_65 : decode cX5_earliestBirth 65 = .ok (.iload_n 2, 1) := by decide +kernel
theorem dX5_earliestBirth_66 : decode cX5_earliestBirth 66 = .ok (.aload_n 0, 1) := by decide +kernel
theorem dX5_earliestBirth_67 : decode cX5_earliestBirth 67 = .ok (.getfield 21, 3) := by decide +kernel
theorem dX5_earliestBirth_70 : decode cX5_earliestBirth 70 = .ok (.isub, 1) := by decide +kernel
theorem dX5_earliestBirth_71 : decode cX5_earliestBirth 71 = .ok (.goto 8, 3) := by decide +kernel
theorem dX5_earliestBirth_74 : decode cX5_earliestBirth 74 = .ok (.iload_n 2, 1) := by decide +kernel
theorem dX5_earliestBirth_75 : decode cX5_earliestBirth 75 = .ok (.iload_n 3, 1) := by decide +kernel
theorem dX5_earliestBirth_76 : decode cX5_earliestBirth 76 = .ok (.isub, 1) := by decide +kernel
theorem dX5_earliestBirth_77 : decode cX5_earliestBirth 77 = .ok (.iconst 1, 1) := by decide +kernel
theorem dX5_earliestBirth_78 : decode cX5_earliestBirth 78 = .ok (.isub, 1) := by decide +kernel
theorem dX5_earliestBirth_79 : decode cX5_earliestBirth 79 = .ok (.ireturn, 1) := by decide +kernel
theorem dX5_earliestBirth_80 : decode cX5_earliestBirth 80 = .ok (.iload_n 3, 1) := by decide +kernel
theorem dX5_earliestBirth_81 : decode cX5_earliestBirth 81 = .ok (.iconst (-1), 1) := by decide +kernel
theorem dX5_earliestBirth_82 : decode cX5_earliestBirth 82 = .ok (.if_icmp .ne 12, 3) := by decide +kernel
theorem dX5_earliestBirth_85 : decode cX5_earliestBirth 85 = .ok (.iload_n 2, 1) := by decide +kernel
theorem dX5_earliestBirth_86 : decode cX5_earliestBirth 86 = .ok (.aload_n 0, 1) := by decide +kernel
theorem dX5_earliestBirth_87 : decode cX5_earliestBirth 87 = .ok (.getfield 21, 3) := by decide +kernel
theorem dX5_earliestBirth_90 : decode cX5_earliestBirth 90 = .ok (.isub, 1) := by decide +kernel
theorem dX5_earliestBirth_91 : decode cX5_earliestBirth 91 = .ok (.goto 13, 3) := by decide +kernel
theorem dX5_earliestBirth_94 : decode cX5_earliestBirth 94 = .ok (.iload_n 2, 1) := by decide +kernel
theorem dX5_earliestBirth_95 : decode cX5_earliestBirth 95 = .ok (.iload_n 3, 1) := by decide +kernel
theorem dX5_earliestBirth_96 : decode cX5_earliestBirth 96 = .ok (.isub, 1) := by decide +kernel
theorem dX5_earliestBirth_97 : decode cX5_earliestBirth 97 = .ok (.iconst 1, 1) := by decide +kernel
theorem dX5_earliestBirth_98 : decode cX5_earliestBirth 98 = .ok (.isub, 1) := by decide +kernel
theorem dX5_earliestBirth_99 : decode cX5_earliestBirth 99 = .ok (.aload_n 0, 1) := by decide +kernel
theorem dX5_earliestBirth_100 : decode cX5_earliestBirth 100 = .ok (.getfield 24, 3) := by decide +kernel
theorem dX5_earliestBirth_103 : decode cX5_earliestBirth 103 = .ok (.isub, 1) := by decide +kernel
theorem dX5_earliestBirth_104 : decode cX5_earliestBirth 104 = .ok (.ireturn, 1) := by decide +kernel
theorem dX5_earliestBirth_105 : decode cX5_earliestBirth 105 = .ok (.iload_n 2, 1) := by decide +kernel
theorem dX5_earliestBirth_106 : decode cX5_earliestBirth 106 = .ok (.aload_n 0, 1) := by decide +kernel
theorem dX5_earliestBirth_107 : decode cX5_earliestBirth 107 = .ok (.getfield 21, 3) := by decide +kernel
theorem dX5_earliestBirth_110 : decode cX5_earliestBirth 110 = .ok (.isub, 1) := by decide +kernel
theorem dX5_earliestBirth_111 : decode cX5_earliestBirth 111 = .ok (.ireturn, 1) := by decide +kernel
theorem dX5_latestBirth_0 : decode cX5_latestBirth 0 = .ok (.iload_n 1, 1) := by decide +kernel
theorem dX5_latestBirth_1 : decode cX5_latestBirth 1 = .ok (.lookupswitch 68 #[(0, 35), (5, 37), (6, 50)], 35) := by decide +kernel
theorem dX5_latestBirth_36 : decode cX5_latestBirth 36 = .ok (.iload_n 2, 1) := by decide +kernel
theorem dX5_latestBirth_37 : decode cX5_latestBirth 37 = .ok (.ireturn, 1) := by decide +kernel
theorem dX5_latestBirth_38 : decode cX5_latestBirth 38 = .ok (.iload_n 3, 1) := by decide +kernel
theorem dX5_latestBirth_39 : decode cX5_latestBirth 39 = .ok (.iconst (-1), 1) := by decide +kernel
theorem dX5_latestBirth_40 : decode cX5_latestBirth 40 = .ok (.if_icmp .ne 7, 3) := by decide +kernel
theorem dX5_latestBirth_43 : decode cX5_latestBirth 43 = .ok (.iload_n 2, 1) := by decide +kernel
theorem dX5_latestBirth_44 : decode cX5_latestBirth 44 = .ok (.goto 6, 3) := by decide +kernel
theorem dX5_latestBirth_47 : decode cX5_latestBirth 47 = .ok (.iload_n 2, 1) := by decide +kernel
theorem dX5_latestBirth_48 : decode cX5_latestBirth 48 = .ok (.iload_n 3, 1) := by decide +kernel
theorem dX5_latestBirth_49 : decode cX5_latestBirth 49 = .ok (.isub, 1) := by decide +kernel
theorem dX5_latestBirth_50 : decode cX5_latestBirth 50 = .ok (.ireturn, 1) := by decide +kernel
theorem dX5_latestBirth_51 : decode cX5_latestBirth 51 = .ok (.iload_n 3, 1) := by decide +kernel
theorem dX5_latestBirth_52 : decode cX5_latestBirth 52 = .ok (.iconst (-1), 1) := by decide +kernel
theorem dX5_latestBirth_53 : decode cX5_latestBirth 53 = .ok (.if_icmp .ne 7, 3) := by decide +kernel
theorem dX5_latestBirth_56 : decode cX5_latestBirth 56 = .ok (.iload_n 2, 1) := by decide +kernel
theorem dX5_latestBirth_57 : decode cX5_latestBirth 57 = .ok (.goto 11, 3) := by decide +kernel
theorem dX5_latestBirth_60 : decode cX5_latestBirth 60 = .ok (.iload_n 2, 1) := by decide +kernel
theorem dX5_latestBirth_61 : decode cX5_latestBirth 61 = .ok (.iload_n 3, 1) := by decide +kernel
theorem dX5_latestBirth_62 : decode cX5_latestBirth 62 = .ok (.isub, 1) := by decide +kernel
theorem dX5_latestBirth_63 : decode cX5_latestBirth 63 = .ok (.aload_n 0, 1) := by decide +kernel
theorem dX5_latestBirth_64 : decode cX5_latestBirth 64 = .ok (.getfield 24, 3) := by decide +kernel
theorem dX5_latestBirth_67 : decode cX5_latestBirth 67 = .ok (.iadd, 1) := by decide +kernel
theorem dX5_latestBirth_68 : decode cX5_latestBirth 68 = .ok (.ireturn, 1) := by decide +kernel
theorem dX5_latestBirth_69 : decode cX5_latestBirth 69 = .ok (.iload_n 2, 1) := by decide +kernel
theorem dX5_latestBirth_70 : decode cX5_latestBirth 70 = .ok (.aload_n 0, 1) := by decide +kernel
theorem dX5_latestBirth_71 : decode cX5_latestBirth 71 = .ok (.getfield 9, 3) := by decide +kernel
theorem dX5_latestBirth_74 : decode cX5_latestBirth 74 = .ok (.isub, 1) := by decide +kernel
theorem dX5_latestBirth_75 : decode cX5_latestBirth 75 = .ok (.ireturn, 1) := by decide +kernel
theorem dX6_init_0 : decode cX6_init 0 = .ok (.aload_n 0, 1) := by decide +kernel
theorem dX6_init_1 : decode cX6_init 1 = .ok (.invokespecial 3, 3) := by decide +kernel
theorem dX6_init_4 : decode cX6_init 4 = .ok (.aload_n 0, 1) := by decide +kernel
theorem dX6_init_5 : decode cX6_init 5 = .ok (.bipush 14, 2) := by decide +kernel
theorem dX6_init_7 : decode cX6_init 7 = .ok (.newarray .int, 2) := by decide +kernel
theorem dX6_init_9 : decode cX6_init 9 = .ok (.putfield 9, 3) := by decide +kernel
theorem dX6_init_12 : decode cX6_init 12 = .ok (.aload_n 0, 1) := by decide +kernel
theorem dX6_init_13 : decode cX6_init 13 = .ok (.bipush 14, 2) := by decide +kernel
theorem dX6_init_15 : decode cX6_init 15 = .ok (.newarray .int, 2) := by decide +kernel
theorem dX6_init_17 : decode cX6_init 17 = .ok (.putfield 15, 3) := by decide +kernel
theorem dX6_init_20 : decode cX6_init 20 = .ok (.aload_n 0, 1) := by decide +kernel
theorem dX6_init_21 : decode cX6_init 21 = .ok (.bipush 14, 2) := by decide +kernel
theorem dX6_init_23 : decode cX6_init 23 = .ok (.newarray .int, 2) := by decide +kernel
theorem dX6_init_25 : decode cX6_init 25 = .ok (.putfield 18, 3) := by decide +kernel
theorem dX6_init_28 : decode cX6_init 28 = .ok (.aload_n 0, 1) := by decide +kernel
theorem dX6_init_29 : decode cX6_init 29 = .ok (.bipush 14, 2) := by decide +kernel
theorem dX6_init_31 : decode cX6_init 31 = .ok (.newarray .int, 2) := by decide +kernel
theorem dX6_init_33 : decode cX6_init 33 = .ok (.putfield 21, 3) := by decide +kernel
theorem dX6_init_36 : decode cX6_init 36 = .ok (.aload_n 0, 1) := by decide +kernel
theorem dX6_init_37 : decode cX6_init 37 = .ok (.iconst 0, 1) := by decide +kernel
theorem dX6_init_38 : decode cX6_init 38 = .ok (.putfield 24, 3) := by decide +kernel
theorem dX6_init_41 : decode cX6_init 41 = .ok (.aload_n 0, 1) := by decide +kernel
theorem dX6_init_42 : decode cX6_init 42 = .ok (.iconst 0, 1) := by decide +kernel
theorem dX6_init_43 : decode cX6_init 43 = .ok (.putfield 28, 3) := by decide +kernel
theorem dX6_init_46 : decode cX6_init 46 = .ok (.aload_n 0, 1) := by decide +kernel
theorem dX6_init_47 : decode cX6_init 47 = .ok (.iconst 0, 1) := by decide +kernel
theorem dX6_init_48 : decode cX6_init 48 = .ok (.putfield 31, 3) := by decide +kernel
theorem dX6_init_51 : decode cX6_init 51 = .ok (.aload_n 0, 1) := by decide +kernel
theorem dX6_init_52 : decode cX6_init 52 = .ok (.iconst 0, 1) := by decide +kernel
theorem dX6_init_53 : decode cX6_init 53 = .ok (.putfield 34, 3) := by decide +kernel
theorem dX6_init_56 : decode cX6_init 56 = .ok (.aload_n 0, 1) := by decide +kernel
theorem dX6_init_57 : decode cX6_init 57 = .ok (.iconst 0, 1) := by decide +kernel
theorem dX6_init_58 : decode cX6_init 58 = .ok (.putfield 37, 3) := by decide +kernel
theorem dX6_init_61 : decode cX6_init 61 = .ok (.iconst 0, 1) := by decide +kernel
theorem dX6_init_62 : decode cX6_init 62 = .ok (.iload_n 3, 1) := by decide +kernel
theorem dX6_init_63 : decode cX6_init 63 = .ok (.sipush 3000, 3) := by decide +kernel
theorem dX6_init_66 : decode cX6_init 66 = .ok (.invokestatic 41, 3) := by decide +kernel
theorem dX6_init_69 : decode cX6_init 69 = .ok (.invokestatic 47, 3) := by decide +kernel
theorem dX6_init_72 : decode cX6_init 72 = .ok (.istore 4, 2) := by decide +kernel
theorem dX6_init_74 : decode cX6_init 74 = .ok (.aload_n 0, 1) := by decide +kernel
theorem dX6_init_75 : decode cX6_init 75 = .ok (.aload_n 1, 1) := by decide +kernel
theorem dX6_init_76 : decode cX6_init 76 = .ok (.putfield 50, 3) := by decide +kernel
theorem dX6_init_79 : decode cX6_init 79 = .ok (.aload_n 0, 1) := by decide +kernel
theorem dX6_init_80 : decode cX6_init 80 = .ok (.aload_n 2, 1) := by decide +kernel
theorem dX6_init_81 : decode cX6_init 81 = .ok (.putfield 54, 3) := by decide +kernel
theorem dX6_init_84 : decode cX6_init 84 = .ok (.aload_n 0, 1) := by decide +kernel
theorem dX6_init_85 : decode cX6_init 85 = .ok (.new 58, 3) := by decide +kernel
theorem dX6_init_88 : decode cX6_init 88 = .ok (.dup, 1) := by decide +kernel
theorem dX6_init_89 : decode cX6_init 89 = .ok (.aload_n 2, 1) := by decide +kernel
theorem dX6_init_90 : decode cX6_init 90 = .ok (.invokespecial 60, 3) := by decide +kernel
theorem dX6_init_93 : decode cX6_init 93 = .ok (.putfield 63, 3) := by decide +kernel
theorem dX6_init_96 : decode cX6_init 96 = .ok (.aload_n 0, 1) := by decide +kernel
theorem dX6_init_97 : decode cX6_init 97 = .ok (.iload 4, 2) := by decide +kernel
theorem dX6_init_99 : decode cX6_init 99 = .ok (.newarray .long, 2) := by decide +kernel
theorem dX6_init_101 : decode cX6_init 101 = .ok (.putfield 67, 3) := by decide +kernel
theorem dX6_init_104 : decode cX6_init 104 = .ok (.aload_n 0, 1) := by decide +kernel
theorem dX6_init_105 : decode cX6_init 105 = .ok (.iload 4, 2) := by decide +kernel
theorem dX6_init_107 : decode cX6_init 107 = .ok (.newarray .int, 2) := by decide +kernel
theorem dX6_init_109 : decode cX6_init 109 = .ok (.putfield 71, 3) := by decide +kernel
theorem dX6_init_112 : decode cX6_init 112 = .ok (.return_, 1) := by decide +kernel
theorem dX6_seek_0 : decode cX6_seek 0 = .ok (.aload_n 0, 1) := by decide +kernel
theorem dX6_seek_1 : decode cX6_seek 1 = .ok (.iconst 0, 1) := by decide +kernel
theorem dX6_seek_2 : decode cX6_seek 2 = .ok (.putfield 24, 3) := by decide +kernel
theorem dX6_seek_5 : decode cX6_seek 5 = .ok (.iconst 0, 1) := by decide +kernel
theorem dX6_seek_6 : decode cX6_seek 6 = .ok (.istore_n 2, 1) := by decide +kernel
theorem dX6_seek_7 : decode cX6_seek 7 = .ok (.iload_n 2, 1) := by decide +kernel
theorem dX6_seek_8 : decode cX6_seek 8 = .ok (.aload_n 0, 1) := by decide +kernel
theorem dX6_seek_9 : decode cX6_seek 9 = .ok (.getfield 50, 3) := by decide +kernel
theorem dX6_seek_12 : decode cX6_seek 12 = .ok (.getfield 74, 3) := by decide +kernel
theorem dX6_seek_15 : decode cX6_seek 15 = .ok (.if_icmp .ge 48, 3) := by decide +kernel
theorem dX6_seek_18 : decode cX6_seek 18 = .ok (.iload_n 2, 1) := by decide +kernel
theorem dX6_seek_19 : decode cX6_seek 19 = .ok (.bipush 14, 2) := by decide +kernel
theorem dX6_seek_21 : decode cX6_seek 21 = .ok (.if_icmp .ge 42, 3) := by decide +kernel
theorem dX6_seek_24 : decode cX6_seek 24 = .ok (.iload_n 1, 1) := by decide +kernel
theorem dX6_seek_25 : decode cX6_seek 25 = .ok (.aload_n 0, 1) := by decide +kernel
theorem dX6_seek_26 : decode cX6_seek 26 = .ok (.getfield 50, 3) := by decide +kernel
theorem dX6_seek_29 : decode cX6_seek 29 = .ok (.iload_n 2, 1) := by decide +kernel
theorem dX6_seek_30 : decode cX6_seek 30 = .ok (.invokevirtual 79, 3) := by decide +kernel
theorem dX6_seek_33 : decode cX6_seek 33 = .ok (.iand, 1) := by decide +kernel
theorem dX6_seek_34 : decode cX6_seek 34 = .ok (.ifCond .eq 23, 3) := by decide +kernel
theorem dX6_seek_37 : decode cX6_seek 37 = .ok (.aload_n 0, 1) := by decide +kernel
theorem dX6_seek_38 : decode cX6_seek 38 = .ok (.getfield 9, 3) := by decide +kernel
theorem dX6_seek_41 : decode cX6_seek 41 = .ok (.aload_n 0, 1) := by decide +kernel
theorem dX6_seek_42 : decode cX6_seek 42 = .ok (.getfield 24, 3) := by decide +kernel
theorem dX6_seek_45 : decode cX6_seek 45 = .ok (.iload_n 2, 1) := by decide +kernel
theorem dX6_seek_46 : decode cX6_seek 46 = .ok (.iastore, 1) := by decide +kernel
theorem dX6_seek_47 : decode cX6_seek 47 = .ok (.aload_n 0, 1) := by decide +kernel
theorem dX6_seek_48 : decode cX6_seek 48 = .ok (.dup, 1) := by decide +kernel
theorem dX6_seek_49 : decode cX6_seek 49 = .ok (.getfield 24, 3) := by decide +kernel
theorem dX6_seek_52 : decode cX6_seek 52 = .ok (.iconst 1, 1) := by decide +kernel
theorem dX6_seek_53 : decode cX6_seek 53 = .ok (.iadd, 1) := by decide +kernel
theorem dX6_seek_54 : decode cX6_seek 54 = .ok (.putfield 24, 3) := by decide +kernel
theorem dX6_seek_57 : decode cX6_seek 57 = .ok (.iinc 2 1, 3) := by decide +kernel
theorem dX6_seek_60 : decode cX6_seek 60 = .ok (.goto (-53), 3) := by decide +kernel
theorem dX6_seek_63 : decode cX6_seek 63 = .ok (.aload_n 0, 1) := by decide +kernel
theorem dX6_seek_64 : decode cX6_seek 64 = .ok (.getfield 18, 3) := by decide +kernel
theorem dX6_seek_67 : decode cX6_seek 67 = .ok (.sipush 16383, 3) := by decide +kernel
theorem dX6_seek_70 : decode cX6_seek 70 = .ok (.invokestatic 83, 3) := by decide +kernel
theorem dX6_seek_73 : decode cX6_seek 73 = .ok (.aload_n 0, 1) := by decide +kernel
theorem dX6_seek_74 : decode cX6_seek 74 = .ok (.getfield 63, 3) := by decide +kernel
theorem dX6_seek_77 : decode cX6_seek 77 = .ok (.iconst 0, 1) := by decide +kernel
theorem dX6_seek_78 : decode cX6_seek 78 = .ok (.putfield 89, 3) := by decide +kernel
theorem dX6_seek_81 : decode cX6_seek 81 = .ok (.aload_n 0, 1) := by decide +kernel
theorem dX6_seek_82 : decode cX6_seek 82 = .ok (.iconst 0, 1) := by decide +kernel
theorem dX6_seek_83 : decode cX6_seek 83 = .ok (.putfield 28, 3) := by decide +kernel
theorem dX6_seek_86 : decode cX6_seek 86 = .ok (.aload_n 0, 1) := by decide +kernel
theorem dX6_seek_87 : decode cX6_seek 87 = .ok (.iconst 0, 1) := by decide +kernel
theorem dX6_seek_88 : decode cX6_seek 88 = .ok (.putfield 31, 3) := by decide +kernel
theorem dX6_seek_91 : decode cX6_seek 91 = .ok (.aload_n 0, 1) := by decide +kernel
theorem dX6_seek_92 : decode cX6_seek 92 = .ok (.iconst 0, 1) := by decide +kernel
theorem dX6_seek_93 : decode cX6_seek 93 = .ok (.putfield 34, 3) := by decide +kernel
theorem dX6_seek_96 : decode cX6_seek 96 = .ok (.aload_n 0, 1) := by decide +kernel
theorem dX6_seek_97 : decode cX6_seek 97 = .ok (.iconst 0, 1) := by decide +kernel
theorem dX6_seek_98 : decode cX6_seek 98 = .ok (.putfield 37, 3) := by decide +kernel
theorem dX6_seek_101 : decode cX6_seek 101 = .ok (.aload_n 0, 1) := by decide +kernel
theorem dX6_seek_102 : decode cX6_seek 102 = .ok (.iconst 0, 1) := by decide +kernel
theorem dX6_seek_103 : decode cX6_seek 103 = .ok (.invokestatic 90, 3) := by decide +kernel
theorem dX6_seek_106 : decode cX6_seek 106 = .ok (.return_, 1) := by decide +kernel
theorem dX6_place_0 : decode cX6_place 0 = .ok (.iload_n 1, 1) := by decide +kernel
theorem dX6_place_1 : decode cX6_place 1 = .ok (.aload_n 0, 1) := by decide +kernel
theorem dX6_place_2 : decode cX6_place 2 = .ok (.getfield 24, 3) := by decide +kernel
theorem dX6_place_5 : decode cX6_place 5 = .ok (.if_icmp .ge 9, 3) := by decide +kernel
theorem dX6_place_8 : decode cX6_place 8 = .ok (.iload_n 1, 1) := by decide +kernel
theorem dX6_place_9 : decode cX6_place 9 = .ok (.bipush 14, 2) := by decide +kernel
theorem dX6_place_11 : decode cX6_place 11 = .ok (.if_icmp .lt 8, 3) := by decide +kernel
theorem dX6_place_14 : decode cX6_place 14 = .ok (.aload_n 0, 1) := by decide +kernel
theorem dX6_place_15 : decode cX6_place 15 = .ok (.invokevirtual 94, 3) := by decide +kernel
theorem dX6_place_18 : decode cX6_place 18 = .ok (.return_, 1) := by decide +kernel
theorem dX6_place_19 : decode cX6_place 19 = .ok (.aload_n 0, 1) := by decide +kernel
theorem dX6_place_20 : decode cX6_place 20 = .ok (.getfield 9, 3) := by decide +kernel
theorem dX6_place_23 : decode cX6_place 23 = .ok (.iload_n 1, 1) := by decide +kernel
theorem dX6_place_24 : decode cX6_place 24 = .ok (.iaload, 1) := by decide +kernel
theorem dX6_place_25 : decode cX6_place 25 = .ok (.istore_n 2, 1) := by decide +kernel
theorem dX6_place_26 : decode cX6_place 26 = .ok (.iload_n 2, 1) := by decide +kernel
theorem dX6_place_27 : decode cX6_place 27 = .ok (.invokestatic 97, 3) := by decide +kernel
theorem dX6_place_30 : decode cX6_place 30 = .ok (.ifCond .ne 4, 3) := by decide +kernel
theorem dX6_place_33 : decode cX6_place 33 = .ok (.return_, 1) := by decide +kernel
theorem dX6_place_34 : decode cX6_place 34 = .ok (.aload_n 0, 1) := by decide +kernel
theorem dX6_place_35 : decode cX6_place 35 = .ok (.getfield 50, 3) := by decide +kernel
theorem dX6_place_38 : decode cX6_place 38 = .ok (.getfield 101, 3) := by decide +kernel
theorem dX6_place_41 : decode cX6_place 41 = .ok (.iload_n 2, 1) := by decide +kernel
theorem dX6_place_42 : decode cX6_place 42 = .ok (.iaload, 1) := by decide +kernel
theorem dX6_place_43 : decode cX6_place 43 = .ok (.istore_n 3, 1) := by decide +kernel
theorem dX6_place_44 : decode cX6_place 44 = .ok (.iload_n 3, 1) := by decide +kernel
theorem dX6_place_45 : decode cX6_place 45 = .ok (.invokestatic 97, 3) := by decide +kernel
theorem dX6_place_48 : decode cX6_place 48 = .ok (.ifCond .eq 30, 3) := by decide +kernel
theorem dX6_place_51 : decode cX6_place 51 = .ok (.aload_n 0, 1) := by decide +kernel
theorem dX6_place_52 : decode cX6_place 52 = .ok (.invokevirtual 104, 3) := by decide +kernel
theorem dX6_place_55 : decode cX6_place 55 = .ok (.ifCond .eq 22, 3) := by decide +kernel
theorem dX6_place_58 : decode cX6_place 58 = .ok (.aload_n 0, 1) := by decide +kernel
theorem dX6_place_59 : decode cX6_place 59 = .ok (.getfield 15, 3) := by decide +kernel
theorem dX6_place_62 : decode cX6_place 62 = .ok (.iload_n 2, 1) := by decide +kernel
theorem dX6_place_63 : decode cX6_place 63 = .ok (.aload_n 0, 1) := by decide +kernel
theorem dX6_place_64 : decode cX6_place 64 = .ok (.getfield 15, 3) := by decide +kernel
theorem dX6_place_67 : decode cX6_place 67 = .ok (.iload_n 3, 1) := by decide +kernel
theorem dX6_place_68 : decode cX6_place 68 = .ok (.iaload, 1) := by decide +kernel
theorem dX6_place_69 : decode cX6_place 69 = .ok (.iastore, 1) := by decide +kernel
theorem dX6_place_70 : decode cX6_place 70 = .ok (.aload_n 0, 1) := by decide +kernel
theorem dX6_place_71 : decode cX6_place 71 = .ok (.iload_n 1, 1) := by decide +kernel
theorem dX6_place_72 : decode cX6_place 72 = .ok (.iconst 1, 1) := by decide +kernel
theorem dX6_place_73 : decode cX6_place 73 = .ok (.iadd, 1) := by decide +kernel
theorem dX6_place_74 : decode cX6_place 74 = .ok (.invokestatic 90, 3) := by decide +kernel
theorem dX6_place_77 : decode cX6_place 77 = .ok (.return_, 1) := by decide +kernel
theorem dX6_place_78 : decode cX6_place 78 = .ok (.aload_n 0, 1) := by decide +kernel
theorem dX6_place_79 : decode cX6_place 79 = .ok (.getfield 63, 3) := by decide +kernel
theorem dX6_place_82 : decode cX6_place 82 = .ok (.getfield 89, 3) := by decide +kernel
theorem dX6_place_85 : decode cX6_place 85 = .ok (.bipush 13, 2) := by decide +kernel
theorem dX6_place_87 : decode cX6_place 87 = .ok (.invokestatic 41, 3) := by decide +kernel
theorem dX6_place_90 : decode cX6_place 90 = .ok (.istore 4, 2) := by decide +kernel
theorem dX6_place_92 : decode cX6_place 92 = .ok (.iconst 0, 1) := by decide +kernel
theorem dX6_place_93 : decode cX6_place 93 = .ok (.istore 5, 2) := by decide +kernel
theorem dX6_place_95 : decode cX6_place 95 = .ok (.iload 5, 2) := by decide +kernel
theorem dX6_place_97 : decode cX6_place 97 = .ok (.iload 4, 2) := by decide +kernel
theorem dX6_place_99 : decode cX6_place 99 = .ok (.if_icmp .gt 125, 3) := by decide +kernel
theorem dX6_place_102 : decode cX6_place 102 = .ok (.aload_n 0, 1) := by decide +kernel
theorem dX6_place_103 : decode cX6_place 103 = .ok (.invokevirtual 104, 3) := by decide +kernel
theorem dX6_place_106 : decode cX6_place 106 = .ok (.ifCond .eq 118, 3) := by decide +kernel
theorem dX6_place_109 : decode cX6_place 109 = .ok (.aload_n 0, 1) := by decide +kernel
theorem dX6_place_110 : decode cX6_place 110 = .ok (.getfield 63, 3) := by decide +kernel
theorem dX6_place_113 : decode cX6_place 113 = .ok (.iload 5, 2) := by decide +kernel
theorem dX6_place_115 : decode cX6_place 115 = .ok (.iload_n 2, 1) := by decide +kernel
theorem dX6_place_116 : decode cX6_place 116 = .ok (.invokevirtual 108, 3) := by decide +kernel
theorem dX6_place_119 : decode cX6_place 119 = .ok (.ifCond .eq 16, 3) := by decide +kernel
theorem dX6_place_122 : decode cX6_place 122 = .ok (.aload_n 0, 1) := by decide +kernel
theorem dX6_place_123 : decode cX6_place 123 = .ok (.getfield 63, 3) := by decide +kernel
theorem dX6_place_126 : decode cX6_place 126 = .ok (.iload 5, 2) := by decide +kernel
theorem dX6_place_128 : decode cX6_place 128 = .ok (.iload_n 2, 1) := by decide +kernel
theorem dX6_place_129 : decode cX6_place 129 = .ok (.invokevirtual 112, 3) := by decide +kernel
theorem dX6_place_132 : decode cX6_place 132 = .ok (.goto 4, 3) := by decide +kernel
theorem dX6_place_135 : decode cX6_place 135 = .ok (.iconst (-1), 1) := by decide +kernel
theorem dX6_place_136 : decode cX6_place 136 = .ok (.istore 6, 2) := by decide +kernel
theorem dX6_place_138 : decode cX6_place 138 = .ok (.iload 6, 2) := by decide +kernel
theorem dX6_place_140 : decode cX6_place 140 = .ok (.iconst (-1), 1) := by decide +kernel
theorem dX6_place_141 : decode cX6_place 141 = .ok (.if_icmp .eq 77, 3) := by decide +kernel
theorem dX6_place_144 : decode cX6_place 144 = .ok (.aload_n 0, 1) := by decide +kernel
theorem dX6_place_145 : decode cX6_place 145 = .ok (.getfield 28, 3) := by decide +kernel
theorem dX6_place_148 : decode cX6_place 148 = .ok (.iload 6, 2) := by decide +kernel
theorem dX6_place_150 : decode cX6_place 150 = .ok (.iadd, 1) := by decide +kernel
theorem dX6_place_151 : decode cX6_place 151 = .ok (.aload_n 0, 1) := by decide +kernel
theorem dX6_place_152 : decode cX6_place 152 = .ok (.getfield 54, 3) := by decide +kernel
theorem dX6_place_155 : decode cX6_place 155 = .ok (.getfield 115, 3) := by decide +kernel
theorem dX6_place_158 : decode cX6_place 158 = .ok (.if_icmp .gt 60, 3) := by decide +kernel
theorem dX6_place_161 : decode cX6_place 161 = .ok (.aload_n 0, 1) := by decide +kernel
theorem dX6_place_162 : decode cX6_place 162 = .ok (.getfield 63, 3) := by decide +kernel
theorem dX6_place_165 : decode cX6_place 165 = .ok (.iload 5, 2) := by decide +kernel
theorem dX6_place_167 : decode cX6_place 167 = .ok (.iload_n 2, 1) := by decide +kernel
theorem dX6_place_168 : decode cX6_place 168 = .ok (.invokevirtual 120, 3) := by decide +kernel
theorem dX6_place_171 : decode cX6_place 171 = .ok (.aload_n 0, 1) := by decide +kernel
theorem dX6_place_172 : decode cX6_place 172 = .ok (.getfield 15, 3) := by decide +kernel
theorem dX6_place_175 : decode cX6_place 175 = .ok (.iload_n 2, 1) := by decide +kernel
theorem dX6_place_176 : decode cX6_place 176 = .ok (.iload 5, 2) := by decide +kernel
theorem dX6_place_178 : decode cX6_place 178 = .ok (.iastore, 1) := by decide +kernel
theorem dX6_place_179 : decode cX6_place 179 = .ok (.aload_n 0, 1) := by decide +kernel
theorem dX6_place_180 : decode cX6_place 180 = .ok (.dup, 1) := by decide +kernel
theorem dX6_place_181 : decode cX6_place 181 = .ok (.getfield 28, 3) := by decide +kernel
theorem dX6_place_184 : decode cX6_place 184 = .ok (.iload 6, 2) := by decide +kernel
theorem dX6_place_186 : decode cX6_place 186 = .ok (.iadd, 1) := by decide +kernel
theorem dX6_place_187 : decode cX6_place 187 = .ok (.putfield 28, 3) := by decide +kernel
theorem dX6_place_190 : decode cX6_place 190 = .ok (.aload_n 0, 1) := by decide +kernel
theorem dX6_place_191 : decode cX6_place 191 = .ok (.iload_n 1, 1) := by decide +kernel
theorem dX6_place_192 : decode cX6_place 192 = .ok (.iconst 1, 1) := by decide +kernel
theorem dX6_place_193 : decode cX6_place 193 = .ok (.iadd, 1) := by decide +kernel
theorem dX6_place_194 : decode cX6_place 194 = .ok (.invokestatic 90, 3) := by decide +kernel
theorem dX6_place_197 : decode cX6_place 197 = .ok (.aload_n 0, 1) := by decide +kernel
theorem dX6_place_198 : decode cX6_place 198 = .ok (.dup, 1) := by decide +kernel
theorem dX6_place_199 : decode cX6_place 199 = .ok (.getfield 28, 3) := by decide +kernel
theorem dX6_place_202 : decode cX6_place 202 = .ok (.iload 6, 2) := by decide +kernel
theorem dX6_place_204 : decode cX6_place 204 = .ok (.isub, 1) := by decide +kernel
theorem dX6_place_205 : decode cX6_place 205 = .ok (.putfield 28, 3) := by decide +kernel
theorem dX6_place_208 : decode cX6_place 208 = .ok (.aload_n 0, 1) := by decide +kernel
theorem dX6_place_209 : decode cX6_place 209 = .ok (.getfield 63, 3) := by decide +kernel
theorem dX6_place_212 : decode cX6_place 212 = .ok (.iload 5, 2) := by decide +kernel
theorem dX6_place_214 : decode cX6_place 214 = .ok (.iload_n 2, 1) := by decide +kernel
theorem dX6_place_215 : decode cX6_place 215 = .ok (.invokevirtual 124, 3) := by decide +kernel
theorem dX6_place_218 : decode cX6_place 218 = .ok (.iinc 5 1, 3) := by decide +kernel
theorem dX6_place_221 : decode cX6_place 221 = .ok (.goto (-126), 3) := by decide +kernel
theorem dX6_place_224 : decode cX6_place 224 = .ok (.return_, 1) := by decide +kernel
theorem dX6_mayTry_0 : decode cX6_mayTry 0 = .ok (.aload_n 0, 1) := by decide +kernel
theorem dX6_mayTry_1 : decode cX6_mayTry 1 = .ok (.getfield 37, 3) := by decide +kernel
theorem dX6_mayTry_4 : decode cX6_mayTry 4 = .ok (.ifCond .ne 17, 3) := by decide +kernel
theorem dX6_mayTry_7 : decode cX6_mayTry 7 = .ok (.aload_n 0, 1) := by decide +kernel
theorem dX6_mayTry_8 : decode cX6_mayTry 8 = .ok (.getfield 31, 3) := by decide +kernel
theorem dX6_mayTry_11 : decode cX6_mayTry 11 = .ok (.ldc 127, 2) := by decide +kernel
theorem dX6_mayTry_13 : decode cX6_mayTry 13 = .ok (.if_icmp .lt 8, 3) := by decide +kernel
theorem dX6_mayTry_16 : decode cX6_mayTry 16 = .ok (.aload_n 0, 1) := by decide +kernel
theorem dX6_mayTry_17 : decode cX6_mayTry 17 = .ok (.iconst 1, 1) := by decide +kernel
theorem dX6_mayTry_18 : decode cX6_mayTry 18 = .ok (.putfield 37, 3) := by decide +kernel
theorem dX6_mayTry_21 : decode cX6_mayTry 21 = .ok (.aload_n 0, 1) := by decide +kernel
theorem dX6_mayTry_22 : decode cX6_mayTry 22 = .ok (.getfield 37, 3) := by decide +kernel
theorem dX6_mayTry_25 : decode cX6_mayTry 25 = .ok (.ifCond .eq 5, 3) := by decide +kernel
theorem dX6_mayTry_28 : decode cX6_mayTry 28 = .ok (.iconst 0, 1) := by decide +kernel
theorem dX6_mayTry_29 : decode cX6_mayTry 29 = .ok (.ireturn, 1) := by decide +kernel
theorem dX6_mayTry_30 : decode cX6_mayTry 30 = .ok (.aload_n 0, 1) := by decide +kernel
theorem dX6_mayTry_31 : decode cX6_mayTry 31 = .ok (.dup, 1) := by decide +kernel
theorem dX6_mayTry_32 : decode cX6_mayTry 32 = .ok (.getfield 31, 3) := by decide +kernel
theorem dX6_mayTry_35 : decode cX6_mayTry 35 = .ok (.iconst 1, 1) := by decide +kernel
theorem dX6_mayTry_36 : decode cX6_mayTry 36 = .ok (.iadd, 1) := by decide +kernel
theorem dX6_mayTry_37 : decode cX6_mayTry 37 = .ok (.putfield 31, 3) := by decide +kernel
theorem dX6_mayTry_40 : decode cX6_mayTry 40 = .ok (.iconst 1, 1) := by decide +kernel
theorem dX6_mayTry_41 : decode cX6_mayTry 41 = .ok (.ireturn, 1) := by decide +kernel
theorem dX6_keep_0 : decode cX6_keep 0 = .ok (.aload_n 0, 1) := by decide +kernel
theorem dX6_keep_1 : decode cX6_keep 1 = .ok (.getfield 34, 3) := by decide +kernel
theorem dX6_keep_4 : decode cX6_keep 4 = .ok (.sipush 3000, 3) := by decide +kernel
theorem dX6_keep_7 : decode cX6_keep 7 = .ok (.if_icmp .lt 9, 3) := by decide +kernel
theorem dX6_keep_10 : decode cX6_keep 10 = .ok (.aload_n 0, 1) := by decide +kernel
theorem dX6_keep_11 : decode cX6_keep 11 = .ok (.iconst 1, 1) := by decide +kernel
theorem dX6_keep_12 : decode cX6_keep 12 = .ok (.putfield 37, 3) := by decide +kernel
theorem dX6_keep_15 : decode cX6_keep 15 = .ok (.return_, 1) := by decide +kernel
theorem dX6_keep_16 : decode cX6_keep 16 = .ok (.aload_n 0, 1) := by decide +kernel
theorem dX6_keep_17 : decode cX6_keep 17 = .ok (.getfield 34, 3) := by decide +kernel
theorem dX6_keep_20 : decode cX6_keep 20 = .ok (.aload_n 0, 1) := by decide +kernel
theorem dX6_keep_21 : decode cX6_keep 21 = .ok (.getfield 67, 3) := by decide +kernel
theorem dX6_keep_24 : decode cX6_keep 24 = .ok (.arraylength, 1) := by decide +kernel
theorem dX6_keep_25 : decode cX6_keep 25 = .ok (.if_icmp .ge 41, 3) := by decide +kernel
theorem dX6_keep_28 : decode cX6_keep 28 = .ok (.aload_n 0, 1) := by decide +kernel
theorem dX6_keep_29 : decode cX6_keep 29 = .ok (.getfield 34, 3) := by decide +kernel
theorem dX6_keep_32 : decode cX6_keep 32 = .ok (.aload_n 0, 1) := by decide +kernel
theorem dX6_keep_33 : decode cX6_keep 33 = .ok (.getfield 71, 3) := by decide +kernel
theorem dX6_keep_36 : decode cX6_keep 36 = .ok (.arraylength, 1) := by decide +kernel
theorem dX6_keep_37 : decode cX6_keep 37 = .ok (.if_icmp .ge 29, 3) := by decide +kernel
theorem dX6_keep_40 : decode cX6_keep 40 = .ok (.aload_n 0, 1) := by decide +kernel
theorem dX6_keep_41 : decode cX6_keep 41 = .ok (.getfield 67, 3) := by decide +kernel
theorem dX6_keep_44 : decode cX6_keep 44 = .ok (.aload_n 0, 1) := by decide +kernel
theorem dX6_keep_45 : decode cX6_keep 45 = .ok (.getfield 34, 3) := by decide +kernel
theorem dX6_keep_48 : decode cX6_keep 48 = .ok (.aload_n 0, 1) := by decide +kernel
theorem dX6_keep_49 : decode cX6_keep 49 = .ok (.invokevirtual 128, 3) := by decide +kernel
theorem dX6_keep_52 : decode cX6_keep 52 = .ok (.lastore, 1) := by decide +kernel
theorem dX6_keep_53 : decode cX6_keep 53 = .ok (.aload_n 0, 1) := by decide +kernel
theorem dX6_keep_54 : decode cX6_keep 54 = .ok (.getfield 71, 3) := by decide +kernel
theorem dX6_keep_57 : decode cX6_keep 57 = .ok (.aload_n 0, 1) := by decide +kernel
theorem dX6_keep_58 : decode cX6_keep 58 = .ok (.getfield 34, 3) := by decide +kernel
theorem dX6_keep_61 : decode cX6_keep 61 = .ok (.aload_n 0, 1) := by decide +kernel
theorem dX6_keep_62 : decode cX6_keep 62 = .ok (.getfield 28, 3) := by decide +kernel
theorem dX6_keep_65 : decode cX6_keep 65 = .ok (.iastore, 1) := by decide +kernel
theorem dX6_keep_66 : decode cX6_keep 66 = .ok (.aload_n 0, 1) := by decide +kernel
theorem dX6_keep_67 : decode cX6_keep 67 = .ok (.dup, 1) := by decide +kernel
theorem dX6_keep_68 : decode cX6_keep 68 = .ok (.getfield 34, 3) := by decide +kernel
theorem dX6_keep_71 : decode cX6_keep 71 = .ok (.iconst 1, 1) := by decide +kernel
theorem dX6_keep_72 : decode cX6_keep 72 = .ok (.iadd, 1) := by decide +kernel
theorem dX6_keep_73 : decode cX6_keep 73 = .ok (.putfield 34, 3) := by decide +kernel
theorem dX6_keep_76 : decode cX6_keep 76 = .ok (.aload_n 0, 1) := by decide +kernel
theorem dX6_keep_77 : decode cX6_keep 77 = .ok (.invokevirtual 132, 3) := by decide +kernel
theorem dX6_keep_80 : decode cX6_keep 80 = .ok (.return_, 1) := by decide +kernel
theorem dX6_packed_0 : decode cX6_packed 0 = .ok (.lconst 0, 1) := by decide +kernel
theorem dX6_packed_1 : decode cX6_packed 1 = .ok (.lstore_n 1, 1) := by decide +kernel
theorem dX6_packed_2 : decode cX6_packed 2 = .ok (.iconst 0, 1) := by decide +kernel
theorem dX6_packed_3 : decode cX6_packed 3 = .ok (.istore_n 3, 1) := by decide +kernel
theorem dX6_packed_4 : decode cX6_packed 4 = .ok (.iload_n 3, 1) := by decide +kernel
theorem dX6_packed_5 : decode cX6_packed 5 = .ok (.aload_n 0, 1) := by decide +kernel
theorem dX6_packed_6 : decode cX6_packed 6 = .ok (.getfield 24, 3) := by decide +kernel
theorem dX6_packed_9 : decode cX6_packed 9 = .ok (.if_icmp .ge 47, 3) := by decide +kernel
theorem dX6_packed_12 : decode cX6_packed 12 = .ok (.iload_n 3, 1) := by decide +kernel
theorem dX6_packed_13 : decode cX6_packed 13 = .ok (.bipush 14, 2) := by decide +kernel
theorem dX6_packed_15 : decode cX6_packed 15 = .ok (.if_icmp .ge 41, 3) := by decide +kernel
theorem dX6_packed_18 : decode cX6_packed 18 = .ok (.aload_n 0, 1) := by decide +kernel
theorem dX6_packed_19 : decode cX6_packed 19 = .ok (.getfield 9, 3) := by decide +kernel
theorem dX6_packed_22 : decode cX6_packed 22 = .ok (.iload_n 3, 1) := by decide +kernel
theorem dX6_packed_23 : decode cX6_packed 23 = .ok (.iaload, 1) := by decide +kernel
theorem dX6_packed_24 : decode cX6_packed 24 = .ok (.istore 4, 2) := by decide +kernel
theorem dX6_packed_26 : decode cX6_packed 26 = .ok (.iload 4, 2) := by decide +kernel
theorem dX6_packed_28 : decode cX6_packed 28 = .ok (.invokestatic 97, 3) := by decide +kernel
theorem dX6_packed_31 : decode cX6_packed 31 = .ok (.ifCond .eq 19, 3) := by decide +kernel
theorem dX6_packed_34 : decode cX6_packed 34 = .ok (.lload_n 1, 1) := by decide +kernel
theorem dX6_packed_35 : decode cX6_packed 35 = .ok (.aload_n 0, 1) := by decide +kernel
theorem dX6_packed_36 : decode cX6_packed 36 = .ok (.getfield 15, 3) := by decide +kernel
theorem dX6_packed_39 : decode cX6_packed 39 = .ok (.iload 4, 2) := by decide +kernel
theorem dX6_packed_41 : decode cX6_packed 41 = .ok (.iaload, 1) := by decide +kernel
theorem dX6_packed_42 : decode cX6_packed 42 = .ok (.i2l, 1) := by decide +kernel
theorem dX6_packed_43 : decode cX6_packed 43 = .ok (.iconst 4, 1) := by decide +kernel
theorem dX6_packed_44 : decode cX6_packed 44 = .ok (.iload 4, 2) := by decide +kernel
theorem dX6_packed_46 : decode cX6_packed 46 = .ok (.imul, 1) := by decide +kernel
theorem dX6_packed_47 : decode cX6_packed 47 = .ok (.lshl, 1) := by decide +kernel
theorem dX6_packed_48 : decode cX6_packed 48 = .ok (.lor, 1) := by decide +kernel
theorem dX6_packed_49 : decode cX6_packed 49 = .ok (.lstore_n 1, 1) := by decide +kernel
theorem dX6_packed_50 : decode cX6_packed 50 = .ok (.iinc 3 1, 3) := by decide +kernel
theorem dX6_packed_53 : decode cX6_packed 53 = .ok (.goto (-49), 3) := by decide +kernel
theorem dX6_packed_56 : decode cX6_packed 56 = .ok (.lload_n 1, 1) := by decide +kernel
theorem dX6_packed_57 : decode cX6_packed 57 = .ok (.lreturn, 1) := by decide +kernel
theorem dX6_narrowJoined_0 : decode cX6_narrowJoined 0 = .ok (.aload_n 0, 1) := by decide +kernel
theorem dX6_narrowJoined_1 : decode cX6_narrowJoined 1 = .ok (.getfield 21, 3) := by decide +kernel
theorem dX6_narrowJoined_4 : decode cX6_narrowJoined 4 = .ok (.iconst 0, 1) := by decide +kernel
theorem dX6_narrowJoined_5 : decode cX6_narrowJoined 5 = .ok (.invokestatic 83, 3) := by decide +kernel
theorem dX6_narrowJoined_8 : decode cX6_narrowJoined 8 = .ok (.iconst 0, 1) := by decide +kernel
theorem dX6_narrowJoined_9 : decode cX6_narrowJoined 9 = .ok (.istore_n 1, 1) := by decide +kernel
theorem dX6_narrowJoined_10 : decode cX6_narrowJoined 10 = .ok (.iload_n 1, 1) := by decide +kernel
theorem dX6_narrowJoined_11 : decode cX6_narrowJoined 11 = .ok (.aload_n 0, 1) := by decide +kernel
theorem dX6_narrowJoined_12 : decode cX6_narrowJoined 12 = .ok (.getfield 24, 3) := by decide +kernel
theorem dX6_narrowJoined_15 : decode cX6_narrowJoined 15 = .ok (.if_icmp .ge 58, 3) := by decide +kernel
theorem dX6_narrowJoined_18 : decode cX6_narrowJoined 18 = .ok (.iload_n 1, 1) := by decide +kernel
theorem dX6_narrowJoined_19 : decode cX6_narrowJoined 19 = .ok (.bipush 14, 2) := by decide +kernel
theorem dX6_narrowJoined_21 : decode cX6_narrowJoined 21 = .ok (.if_icmp .ge 52, 3) := by decide +kernel
theorem dX6_narrowJoined_24 : decode cX6_narrowJoined 24 = .ok (.aload_n 0, 1) := by decide +kernel
theorem dX6_narrowJoined_25 : decode cX6_narrowJoined 25 = .ok (.getfield 9, 3) := by decide +kernel
theorem dX6_narrowJoined_28 : decode cX6_narrowJoined 28 = .ok (.iload_n 1, 1) := by decide +kernel
theorem dX6_narrowJoined_29 : decode cX6_narrowJoined 29 = .ok (.iaload, 1) := by decide +kernel
theorem dX6_narrowJoined_30 : decode cX6_narrowJoined 30 = .ok (.istore_n 2, 1) := by decide +kernel
theorem dX6_narrowJoined_31 : decode cX6_narrowJoined 31 = .ok (.iload_n 2, 1) := by decide +kernel
theorem dX6_narrowJoined_32 : decode cX6_narrowJoined 32 = .ok (.invokestatic 97, 3) := by decide +kernel
theorem dX6_narrowJoined_35 : decode cX6_narrowJoined 35 = .ok (.ifCond .eq 32, 3) := by decide +kernel
theorem dX6_narrowJoined_38 : decode cX6_narrowJoined 38 = .ok (.aload_n 0, 1) := by decide +kernel
theorem dX6_narrowJoined_39 : decode cX6_narrowJoined 39 = .ok (.getfield 15, 3) := by decide +kernel
theorem dX6_narrowJoined_42 : decode cX6_narrowJoined 42 = .ok (.iload_n 2, 1) := by decide +kernel
theorem dX6_narrowJoined_43 : decode cX6_narrowJoined 43 = .ok (.iaload, 1) := by decide +kernel
theorem dX6_narrowJoined_44 : decode cX6_narrowJoined 44 = .ok (.invokestatic 97, 3) := by decide +kernel
theorem dX6_narrowJoined_47 : decode cX6_narrowJoined 47 = .ok (.ifCond .eq 20, 3) := by decide +kernel
theorem dX6_narrowJoined_50 : decode cX6_narrowJoined 50 = .ok (.aload_n 0, 1) := by decide +kernel
theorem dX6_narrowJoined_51 : decode cX6_narrowJoined 51 = .ok (.getfield 21, 3) := by decide +kernel
theorem dX6_narrowJoined_54 : decode cX6_narrowJoined 54 = .ok (.aload_n 0, 1) := by decide +kernel
theorem dX6_narrowJoined_55 : decode cX6_narrowJoined 55 = .ok (.getfield 15, 3) := by decide +kernel
theorem dX6_narrowJoined_58 : decode cX6_narrowJoined 58 = .ok (.iload_n 2, 1) := by decide +kernel
theorem dX6_narrowJoined_59 : decode cX6_narrowJoined 59 = .ok (.iaload, 1) := by decide +kernel
theorem dX6_narrowJoined_60 : decode cX6_narrowJoined 60 = .ok (.dup2, 1) := by decide +kernel
theorem dX6_narrowJoined_61 : decode cX6_narrowJoined 61 = .ok (.iaload, 1) := by decide +kernel
theorem dX6_narrowJoined_62 : decode cX6_narrowJoined 62 = .ok (.iconst 1, 1) := by decide +kernel
theorem dX6_narrowJoined_63 : decode cX6_narrowJoined 63 = .ok (.iload_n 2, 1) := by decide +kernel
theorem dX6_narrowJoined_64 : decode cX6_narrowJoined 64 = .ok (.ishl, 1) := by decide +kernel
theorem dX6_narrowJoined_65 : decode cX6_narrowJoined 65 = .ok (.ior, 1) := by decide +kernel
theorem dX6_narrowJoined_66 : decode cX6_narrowJoined 66 = .ok (.iastore, 1) := by decide +kernel
theorem dX6_narrowJoined_67 : decode cX6_narrowJoined 67 = .ok (.iinc 1 1, 3) := by decide +kernel
theorem dX6_narrowJoined_70 : decode cX6_narrowJoined 70 = .ok (.goto (-60), 3) := by decide +kernel
theorem dX6_narrowJoined_73 : decode cX6_narrowJoined 73 = .ok (.iconst 0, 1) := by decide +kernel
theorem dX6_narrowJoined_74 : decode cX6_narrowJoined 74 = .ok (.istore_n 1, 1) := by decide +kernel
theorem dX6_narrowJoined_75 : decode cX6_narrowJoined 75 = .ok (.iload_n 1, 1) := by decide +kernel
theorem dX6_narrowJoined_76 : decode cX6_narrowJoined 76 = .ok (.aload_n 0, 1) := by decide +kernel
theorem dX6_narrowJoined_77 : decode cX6_narrowJoined 77 = .ok (.getfield 24, 3) := by decide +kernel
theorem dX6_narrowJoined_80 : decode cX6_narrowJoined 80 = .ok (.if_icmp .ge 61, 3) := by decide +kernel
theorem dX6_narrowJoined_83 : decode cX6_narrowJoined 83 = .ok (.iload_n 1, 1) := by decide +kernel
theorem dX6_narrowJoined_84 : decode cX6_narrowJoined 84 = .ok (.bipush 14, 2) := by decide +kernel
theorem dX6_narrowJoined_86 : decode cX6_narrowJoined 86 = .ok (.if_icmp .ge 55, 3) := by decide +kernel
theorem dX6_narrowJoined_89 : decode cX6_narrowJoined 89 = .ok (.aload_n 0, 1) := by decide +kernel
theorem dX6_narrowJoined_90 : decode cX6_narrowJoined 90 = .ok (.getfield 9, 3) := by decide +kernel
theorem dX6_narrowJoined_93 : decode cX6_narrowJoined 93 = .ok (.iload_n 1, 1) := by decide +kernel
theorem dX6_narrowJoined_94 : decode cX6_narrowJoined 94 = .ok (.iaload, 1) := by decide +kernel
theorem dX6_narrowJoined_95 : decode cX6_narrowJoined 95 = .ok (.istore_n 2, 1) := by decide +kernel
theorem dX6_narrowJoined_96 : decode cX6_narrowJoined 96 = .ok (.iload_n 2, 1) := by decide +kernel
theorem dX6_narrowJoined_97 : decode cX6_narrowJoined 97 = .ok (.invokestatic 97, 3) := by decide +kernel
theorem dX6_narrowJoined_100 : decode cX6_narrowJoined 100 = .ok (.ifCond .eq 35, 3) := by decide +kernel
theorem dX6_narrowJoined_103 : decode cX6_narrowJoined 103 = .ok (.aload_n 0, 1) := by decide +kernel
theorem dX6_narrowJoined_104 : decode cX6_narrowJoined 104 = .ok (.getfield 15, 3) := by decide +kernel
theorem dX6_narrowJoined_107 : decode cX6_narrowJoined 107 = .ok (.iload_n 2, 1) := by decide +kernel
theorem dX6_narrowJoined_108 : decode cX6_narrowJoined 108 = .ok (.iaload, 1) := by decide +kernel
theorem dX6_narrowJoined_109 : decode cX6_narrowJoined 109 = .ok (.invokestatic 97, 3) := by decide +kernel
theorem dX6_narrowJoined_112 : decode cX6_narrowJoined 112 = .ok (.ifCond .eq 23, 3) := by decide +kernel
theorem dX6_narrowJoined_115 : decode cX6_narrowJoined 115 = .ok (.aload_n 0, 1) := by decide +kernel
theorem dX6_narrowJoined_116 : decode cX6_narrowJoined 116 = .ok (.getfield 18, 3) := by decide +kernel
theorem dX6_narrowJoined_119 : decode cX6_narrowJoined 119 = .ok (.iload_n 2, 1) := by decide +kernel
theorem dX6_narrowJoined_120 : decode cX6_narrowJoined 120 = .ok (.dup2, 1) := by decide +kernel
theorem dX6_narrowJoined_121 : decode cX6_narrowJoined 121 = .ok (.iaload, 1) := by decide +kernel
theorem dX6_narrowJoined_122 : decode cX6_narrowJoined 122 = .ok (.aload_n 0, 1) := by decide +kernel
theorem dX6_narrowJoined_123 : decode cX6_narrowJoined 123 = .ok (.getfield 21, 3) := by decide +kernel
theorem dX6_narrowJoined_126 : decode cX6_narrowJoined 126 = .ok (.aload_n 0, 1) := by decide +kernel
theorem dX6_narrowJoined_127 : decode cX6_narrowJoined 127 = .ok (.getfield 15, 3) := by decide +kernel
theorem dX6_narrowJoined_130 : decode cX6_narrowJoined 130 = .ok (.iload_n 2, 1) := by decide +kernel
theorem dX6_narrowJoined_131 : decode cX6_narrowJoined 131 = .ok (.iaload, 1) := by decide +kernel
theorem dX6_narrowJoined_132 : decode cX6_narrowJoined 132 = .ok (.iaload, 1) := by decide +kernel
theorem dX6_narrowJoined_133 : decode cX6_narrowJoined 133 = .ok (.iand, 1) := by decide +kernel
theorem dX6_narrowJoined_134 : decode cX6_narrowJoined 134 = .ok (.iastore, 1) := by decide +kernel
theorem dX6_narrowJoined_135 : decode cX6_narrowJoined 135 = .ok (.iinc 1 1, 3) := by decide +kernel
theorem dX6_narrowJoined_138 : decode cX6_narrowJoined 138 = .ok (.goto (-63), 3) := by decide +kernel
theorem dX6_narrowJoined_141 : decode cX6_narrowJoined 141 = .ok (.return_, 1) := by decide +kernel
theorem dX6_way_0 : decode cX6_way 0 = .ok (.iload_n 1, 1) := by decide +kernel
theorem dX6_way_1 : decode cX6_way 1 = .ok (.ifCond .lt 29, 3) := by decide +kernel
theorem dX6_way_4 : decode cX6_way 4 = .ok (.iload_n 1, 1) := by decide +kernel
theorem dX6_way_5 : decode cX6_way 5 = .ok (.aload_n 0, 1) := by decide +kernel
theorem dX6_way_6 : decode cX6_way 6 = .ok (.getfield 34, 3) := by decide +kernel
theorem dX6_way_9 : decode cX6_way 9 = .ok (.if_icmp .ge 21, 3) := by decide +kernel
theorem dX6_way_12 : decode cX6_way 12 = .ok (.iload_n 1, 1) := by decide +kernel
theorem dX6_way_13 : decode cX6_way 13 = .ok (.aload_n 0, 1) := by decide +kernel
theorem dX6_way_14 : decode cX6_way 14 = .ok (.getfield 67, 3) := by decide +kernel
theorem dX6_way_17 : decode cX6_way 17 = .ok (.arraylength, 1) := by decide +kernel
theorem dX6_way_18 : decode cX6_way 18 = .ok (.if_icmp .ge 12, 3) := by decide +kernel
theorem dX6_way_21 : decode cX6_way 21 = .ok (.aload_n 0, 1) := by decide +kernel
theorem dX6_way_22 : decode cX6_way 22 = .ok (.getfield 67, 3) := by decide +kernel
theorem dX6_way_25 : decode cX6_way 25 = .ok (.iload_n 1, 1) := by decide +kernel
theorem dX6_way_26 : decode cX6_way 26 = .ok (.laload, 1) := by decide +kernel
theorem dX6_way_27 : decode cX6_way 27 = .ok (.goto 4, 3) := by decide +kernel
theorem dX6_way_30 : decode cX6_way 30 = .ok (.lconst 0, 1) := by decide +kernel
theorem dX6_way_31 : decode cX6_way 31 = .ok (.lreturn, 1) := by decide +kernel
theorem dX6_costOf_0 : decode cX6_costOf 0 = .ok (.iload_n 1, 1) := by decide +kernel
theorem dX6_costOf_1 : decode cX6_costOf 1 = .ok (.ifCond .lt 29, 3) := by decide +kernel
theorem dX6_costOf_4 : decode cX6_costOf 4 = .ok (.iload_n 1, 1) := by decide +kernel
theorem dX6_costOf_5 : decode cX6_costOf 5 = .ok (.aload_n 0, 1) := by decide +kernel
theorem dX6_costOf_6 : decode cX6_costOf 6 = .ok (.getfield 34, 3) := by decide +kernel
theorem dX6_costOf_9 : decode cX6_costOf 9 = .ok (.if_icmp .ge 21, 3) := by decide +kernel
theorem dX6_costOf_12 : decode cX6_costOf 12 = .ok (.iload_n 1, 1) := by decide +kernel
theorem dX6_costOf_13 : decode cX6_costOf 13 = .ok (.aload_n 0, 1) := by decide +kernel
theorem dX6_costOf_14 : decode cX6_costOf 14 = .ok (.getfield 71, 3) := by decide +kernel
theorem dX6_costOf_17 : decode cX6_costOf 17 = .ok (.arraylength, 1) := by decide +kernel
theorem dX6_costOf_18 : decode cX6_costOf 18 = .ok (.if_icmp .ge 12, 3) := by decide +kernel
theorem dX6_costOf_21 : decode cX6_costOf 21 = .ok (.aload_n 0, 1) := by decide +kernel
theorem dX6_costOf_22 : decode cX6_costOf 22 = .ok (.getfield 71, 3) := by decide +kernel
theorem dX6_costOf_25 : decode cX6_costOf 25 = .ok (.iload_n 1, 1) := by decide +kernel
theorem dX6_costOf_26 : decode cX6_costOf 26 = .ok (.iaload, 1) := by decide +kernel
theorem dX6_costOf_27 : decode cX6_costOf 27 = .ok (.goto 4, 3) := by decide +kernel
theorem dX6_costOf_30 : decode cX6_costOf 30 = .ok (.iconst (-1), 1) := by decide +kernel
theorem dX6_costOf_31 : decode cX6_costOf 31 = .ok (.ireturn, 1) := by decide +kernel
theorem dX6_joinsAlways_0 : decode cX6_joinsAlways 0 = .ok (.aload_n 0, 1) := by decide +kernel
theorem dX6_joinsAlways_1 : decode cX6_joinsAlways 1 = .ok (.getfield 50, 3) := by decide +kernel
theorem dX6_joinsAlways_4 : decode cX6_joinsAlways 4 = .ok (.iload_n 1, 1) := by decide +kernel
theorem dX6_joinsAlways_5 : decode cX6_joinsAlways 5 = .ok (.invokevirtual 135, 3) := by decide +kernel
theorem dX6_joinsAlways_8 : decode cX6_joinsAlways 8 = .ok (.ifCond .eq 31, 3) := by decide +kernel
theorem dX6_joinsAlways_11 : decode cX6_joinsAlways 11 = .ok (.aload_n 0, 1) := by decide +kernel
theorem dX6_joinsAlways_12 : decode cX6_joinsAlways 12 = .ok (.getfield 50, 3) := by decide +kernel
theorem dX6_joinsAlways_15 : decode cX6_joinsAlways 15 = .ok (.iload_n 2, 1) := by decide +kernel
theorem dX6_joinsAlways_16 : decode cX6_joinsAlways 16 = .ok (.invokevirtual 135, 3) := by decide +kernel
theorem dX6_joinsAlways_19 : decode cX6_joinsAlways 19 = .ok (.ifCond .eq 20, 3) := by decide +kernel
theorem dX6_joinsAlways_22 : decode cX6_joinsAlways 22 = .ok (.aload_n 0, 1) := by decide +kernel
theorem dX6_joinsAlways_23 : decode cX6_joinsAlways 23 = .ok (.getfield 18, 3) := by decide +kernel
theorem dX6_joinsAlways_26 : decode cX6_joinsAlways 26 = .ok (.iload_n 1, 1) := by decide +kernel
theorem dX6_joinsAlways_27 : decode cX6_joinsAlways 27 = .ok (.iaload, 1) := by decide +kernel
theorem dX6_joinsAlways_28 : decode cX6_joinsAlways 28 = .ok (.iload_n 2, 1) := by decide +kernel
theorem dX6_joinsAlways_29 : decode cX6_joinsAlways 29 = .ok (.ishr, 1) := by decide +kernel
theorem dX6_joinsAlways_30 : decode cX6_joinsAlways 30 = .ok (.iconst 1, 1) := by decide +kernel
theorem dX6_joinsAlways_31 : decode cX6_joinsAlways 31 = .ok (.iand, 1) := by decide +kernel
theorem dX6_joinsAlways_32 : decode cX6_joinsAlways 32 = .ok (.ifCond .eq 7, 3) := by decide +kernel
theorem dX6_joinsAlways_35 : decode cX6_joinsAlways 35 = .ok (.iconst 1, 1) := by decide +kernel
theorem dX6_joinsAlways_36 : decode cX6_joinsAlways 36 = .ok (.goto 4, 3) := by decide +kernel
theorem dX6_joinsAlways_39 : decode cX6_joinsAlways 39 = .ok (.iconst 0, 1) := by decide +kernel
theorem dX6_joinsAlways_40 : decode cX6_joinsAlways 40 = .ok (.ireturn, 1) := by decide +kernel
theorem dX6_firstWay_0 : decode cX6_firstWay 0 = .ok (.iconst 0, 1) := by decide +kernel
theorem dX6_firstWay_1 : decode cX6_firstWay 1 = .ok (.istore 4, 2) := by decide +kernel
theorem dX6_firstWay_3 : decode cX6_firstWay 3 = .ok (.iload 4, 2) := by decide +kernel
theorem dX6_firstWay_5 : decode cX6_firstWay 5 = .ok (.aload_n 0, 1) := by decide +kernel
theorem dX6_firstWay_6 : decode cX6_firstWay 6 = .ok (.getfield 34, 3) := by decide +kernel
theorem dX6_firstWay_9 : decode cX6_firstWay 9 = .ok (.if_icmp .ge 56, 3) := by decide +kernel
theorem dX6_firstWay_12 : decode cX6_firstWay 12 = .ok (.iload 4, 2) := by decide +kernel
theorem dX6_firstWay_14 : decode cX6_firstWay 14 = .ok (.aload_n 0, 1) := by decide +kernel
theorem dX6_firstWay_15 : decode cX6_firstWay 15 = .ok (.getfield 67, 3) := by decide +kernel
theorem dX6_firstWay_18 : decode cX6_firstWay 18 = .ok (.arraylength, 1) := by decide +kernel
theorem dX6_firstWay_19 : decode cX6_firstWay 19 = .ok (.if_icmp .ge 46, 3) := by decide +kernel
theorem dX6_firstWay_22 : decode cX6_firstWay 22 = .ok (.aload_n 0, 1) := by decide +kernel
theorem dX6_firstWay_23 : decode cX6_firstWay 23 = .ok (.getfield 67, 3) := by decide +kernel
theorem dX6_firstWay_26 : decode cX6_firstWay 26 = .ok (.iload 4, 2) := by decide +kernel
theorem dX6_firstWay_28 : decode cX6_firstWay 28 = .ok (.laload, 1) := by decide +kernel
theorem dX6_firstWay_29 : decode cX6_firstWay 29 = .ok (.iload_n 1, 1) := by decide +kernel
theorem dX6_firstWay_30 : decode cX6_firstWay 30 = .ok (.invokestatic 138, 3) := by decide +kernel
theorem dX6_firstWay_33 : decode cX6_firstWay 33 = .ok (.aload_n 0, 1) := by decide +kernel
theorem dX6_firstWay_34 : decode cX6_firstWay 34 = .ok (.getfield 67, 3) := by decide +kernel
theorem dX6_firstWay_37 : decode cX6_firstWay 37 = .ok (.iload 4, 2) := by decide +kernel
theorem dX6_firstWay_39 : decode cX6_firstWay 39 = .ok (.laload, 1) := by decide +kernel
theorem dX6_firstWay_40 : decode cX6_firstWay 40 = .ok (.iload_n 2, 1) := by decide +kernel
theorem dX6_firstWay_41 : decode cX6_firstWay 41 = .ok (.invokestatic 138, 3) := by decide +kernel
theorem dX6_firstWay_44 : decode cX6_firstWay 44 = .ok (.if_icmp .ne 7, 3) := by decide +kernel
theorem dX6_firstWay_47 : decode cX6_firstWay 47 = .ok (.iconst 1, 1) := by decide +kernel
theorem dX6_firstWay_48 : decode cX6_firstWay 48 = .ok (.goto 4, 3) := by decide +kernel
theorem dX6_firstWay_51 : decode cX6_firstWay 51 = .ok (.iconst 0, 1) := by decide +kernel
theorem dX6_firstWay_52 : decode cX6_firstWay 52 = .ok (.iload_n 3, 1) := by decide +kernel
theorem dX6_firstWay_53 : decode cX6_firstWay 53 = .ok (.if_icmp .ne 6, 3) := by decide +kernel
theorem dX6_firstWay_56 : decode cX6_firstWay 56 = .ok (.iload 4, 2) := by decide +kernel
theorem dX6_firstWay_58 : decode cX6_firstWay 58 = .ok (.ireturn, 1) := by decide +kernel
theorem dX6_firstWay_59 : decode cX6_firstWay 59 = .ok (.iinc 4 1, 3) := by decide +kernel
theorem dX6_firstWay_62 : decode cX6_firstWay 62 = .ok (.goto (-59), 3) := by decide +kernel
theorem dX6_firstWay_65 : decode cX6_firstWay 65 = .ok (.iconst (-1), 1) := by decide +kernel
theorem dX6_firstWay_66 : decode cX6_firstWay 66 = .ok (.ireturn, 1) := by decide +kernel
theorem dX7_init_0 : decode cX7_init 0 = .ok (.aload_n 0, 1) := by decide +kernel
theorem dX7_init_1 : decode cX7_init 1 = .ok (.invokespecial 3, 3) := by decide +kernel
theorem dX7_init_4 : decode cX7_init 4 = .ok (.aload_n 0, 1) := by decide +kernel
theorem dX7_init_5 : decode cX7_init 5 = .ok (.sipush 256, 3) := by decide +kernel
theorem dX7_init_8 : decode cX7_init 8 = .ok (.newarray .int, 2) := by decide +kernel
theorem dX7_init_10 : decode cX7_init 10 = .ok (.putfield 9, 3) := by decide +kernel
theorem dX7_init_13 : decode cX7_init 13 = .ok (.aload_n 0, 1) := by decide +kernel
theorem dX7_init_14 : decode cX7_init 14 = .ok (.sipush 3584, 3) := by decide +kernel
theorem dX7_init_17 : decode cX7_init 17 = .ok (.newarray .int, 2) := by decide +kernel
theorem dX7_init_19 : decode cX7_init 19 = .ok (.putfield 15, 3) := by decide +kernel
theorem dX7_init_22 : decode cX7_init 22 = .ok (.aload_n 0, 1) := by decide +kernel
theorem dX7_init_23 : decode cX7_init 23 = .ok (.aload_n 1, 1) := by decide +kernel
theorem dX7_init_24 : decode cX7_init 24 = .ok (.putfield 18, 3) := by decide +kernel
theorem dX7_init_27 : decode cX7_init 27 = .ok (.aload_n 0, 1) := by decide +kernel
theorem dX7_init_28 : decode cX7_init 28 = .ok (.aload_n 2, 1) := by decide +kernel
theorem dX7_init_29 : decode cX7_init 29 = .ok (.putfield 22, 3) := by decide +kernel
theorem dX7_init_32 : decode cX7_init 32 = .ok (.return_, 1) := by decide +kernel
theorem dX7_forget_0 : decode cX7_forget 0 = .ok (.aload_n 0, 1) := by decide +kernel
theorem dX7_forget_1 : decode cX7_forget 1 = .ok (.getfield 9, 3) := by decide +kernel
theorem dX7_forget_4 : decode cX7_forget 4 = .ok (.iconst 0, 1) := by decide +kernel
theorem dX7_forget_5 : decode cX7_forget 5 = .ok (.invokestatic 26, 3) := by decide +kernel
theorem dX7_forget_8 : decode cX7_forget 8 = .ok (.return_, 1) := by decide +kernel
theorem dX7_leastQuarrel_0 : decode cX7_leastQuarrel 0 = .ok (.aload_n 0, 1) := by decide +kernel
theorem dX7_leastQuarrel_1 : decode cX7_leastQuarrel 1 = .ok (.getfield 18, 3) := by decide +kernel
theorem dX7_leastQuarrel_4 : decode cX7_leastQuarrel 4 = .ok (.invokevirtual 32, 3) := by decide +kernel
theorem dX7_leastQuarrel_7 : decode cX7_leastQuarrel 7 = .ok (.istore_n 1, 1) := by decide +kernel
theorem dX7_leastQuarrel_8 : decode cX7_leastQuarrel 8 = .ok (.iconst 1, 1) := by decide +kernel
theorem dX7_leastQuarrel_9 : decode cX7_leastQuarrel 9 = .ok (.istore_n 2, 1) := by decide +kernel
theorem dX7_leastQuarrel_10 : decode cX7_leastQuarrel 10 = .ok (.iload_n 2, 1) := by decide +kernel
theorem dX7_leastQuarrel_11 : decode cX7_leastQuarrel 11 = .ok (.aload_n 0, 1) := by decide +kernel
theorem dX7_leastQuarrel_12 : decode cX7_leastQuarrel 12 = .ok (.getfield 18, 3) := by decide +kernel
theorem dX7_leastQuarrel_15 : decode cX7_leastQuarrel 15 = .ok (.getfield 38, 3) := by decide +kernel
theorem dX7_leastQuarrel_18 : decode cX7_leastQuarrel 18 = .ok (.if_icmp .ge 63, 3) := by decide +kernel
theorem dX7_leastQuarrel_21 : decode cX7_leastQuarrel 21 = .ok (.iconst 1, 1) := by decide +kernel
theorem dX7_leastQuarrel_22 : decode cX7_leastQuarrel 22 = .ok (.istore_n 3, 1) := by decide +kernel
theorem dX7_leastQuarrel_23 : decode cX7_leastQuarrel 23 = .ok (.iload_n 3, 1) := by decide +kernel
theorem dX7_leastQuarrel_24 : decode cX7_leastQuarrel 24 = .ok (.iload_n 1, 1) := by decide +kernel
theorem dX7_leastQuarrel_25 : decode cX7_leastQuarrel 25 = .ok (.if_icmp .ge 50, 3) := by decide +kernel
theorem dX7_leastQuarrel_28 : decode cX7_leastQuarrel 28 = .ok (.aload_n 0, 1) := by decide +kernel
theorem dX7_leastQuarrel_29 : decode cX7_leastQuarrel 29 = .ok (.iload_n 3, 1) := by decide +kernel
theorem dX7_leastQuarrel_30 : decode cX7_leastQuarrel 30 = .ok (.iload_n 2, 1) := by decide +kernel
theorem dX7_leastQuarrel_31 : decode cX7_leastQuarrel 31 = .ok (.iconst 0, 1) := by decide +kernel
theorem dX7_leastQuarrel_32 : decode cX7_leastQuarrel 32 = .ok (.invokevirtual 42, 3) := by decide +kernel
theorem dX7_leastQuarrel_35 : decode cX7_leastQuarrel 35 = .ok (.ifCond .eq 34, 3) := by decide +kernel
theorem dX7_leastQuarrel_38 : decode cX7_leastQuarrel 38 = .ok (.aload_n 0, 1) := by decide +kernel
theorem dX7_leastQuarrel_39 : decode cX7_leastQuarrel 39 = .ok (.iload_n 3, 1) := by decide +kernel
theorem dX7_leastQuarrel_40 : decode cX7_leastQuarrel 40 = .ok (.invokevirtual 46, 3) := by decide +kernel
theorem dX7_leastQuarrel_43 : decode cX7_leastQuarrel 43 = .ok (.istore 4, 2) := by decide +kernel
theorem dX7_leastQuarrel_45 : decode cX7_leastQuarrel 45 = .ok (.iload 4, 2) := by decide +kernel
theorem dX7_leastQuarrel_47 : decode cX7_leastQuarrel 47 = .ok (.iconst 1, 1) := by decide +kernel
theorem dX7_leastQuarrel_48 : decode cX7_leastQuarrel 48 = .ok (.if_icmp .eq 9, 3) := by decide +kernel
theorem dX7_leastQuarrel_51 : decode cX7_leastQuarrel 51 = .ok (.iload 4, 2) := by decide +kernel
theorem dX7_leastQuarrel_53 : decode cX7_leastQuarrel 53 = .ok (.iconst 3, 1) := by decide +kernel
theorem dX7_leastQuarrel_54 : decode cX7_leastQuarrel 54 = .ok (.if_icmp .ne 15, 3) := by decide +kernel
theorem dX7_leastQuarrel_57 : decode cX7_leastQuarrel 57 = .ok (.iload 4, 2) := by decide +kernel
theorem dX7_leastQuarrel_59 : decode cX7_leastQuarrel 59 = .ok (.iconst 1, 1) := by decide +kernel
theorem dX7_leastQuarrel_60 : decode cX7_leastQuarrel 60 = .ok (.if_icmp .ne 7, 3) := by decide +kernel
theorem dX7_leastQuarrel_63 : decode cX7_leastQuarrel 63 = .ok (.iload_n 3, 1) := by decide +kernel
theorem dX7_leastQuarrel_64 : decode cX7_leastQuarrel 64 = .ok (.goto 4, 3) := by decide +kernel
theorem dX7_leastQuarrel_67 : decode cX7_leastQuarrel 67 = .ok (.iconst (-1), 1) := by decide +kernel
theorem dX7_leastQuarrel_68 : decode cX7_leastQuarrel 68 = .ok (.ireturn, 1) := by decide +kernel
theorem dX7_leastQuarrel_69 : decode cX7_leastQuarrel 69 = .ok (.iinc 3 1, 3) := by decide +kernel
theorem dX7_leastQuarrel_72 : decode cX7_leastQuarrel 72 = .ok (.goto (-49), 3) := by decide +kernel
theorem dX7_leastQuarrel_75 : decode cX7_leastQuarrel 75 = .ok (.iinc 2 1, 3) := by decide +kernel
theorem dX7_leastQuarrel_78 : decode cX7_leastQuarrel 78 = .ok (.goto (-68), 3) := by decide +kernel
theorem dX7_leastQuarrel_81 : decode cX7_leastQuarrel 81 = .ok (.iload_n 1, 1) := by decide +kernel
theorem dX7_leastQuarrel_82 : decode cX7_leastQuarrel 82 = .ok (.ireturn, 1) := by decide +kernel
theorem dX7_leastProof_0 : decode cX7_leastProof 0 = .ok (.aload_n 0, 1) := by decide +kernel
theorem dX7_leastProof_1 : decode cX7_leastProof 1 = .ok (.getfield 18, 3) := by decide +kernel
theorem dX7_leastProof_4 : decode cX7_leastProof 4 = .ok (.iload_n 1, 1) := by decide +kernel
theorem dX7_leastProof_5 : decode cX7_leastProof 5 = .ok (.invokevirtual 50, 3) := by decide +kernel
theorem dX7_leastProof_8 : decode cX7_leastProof 8 = .ok (.aload_n 0, 1) := by decide +kernel
theorem dX7_leastProof_9 : decode cX7_leastProof 9 = .ok (.getfield 18, 3) := by decide +kernel
theorem dX7_leastProof_12 : decode cX7_leastProof 12 = .ok (.iload_n 2, 1) := by decide +kernel
theorem dX7_leastProof_13 : decode cX7_leastProof 13 = .ok (.invokevirtual 50, 3) := by decide +kernel
theorem dX7_leastProof_16 : decode cX7_leastProof 16 = .ok (.ior, 1) := by decide +kernel
theorem dX7_leastProof_17 : decode cX7_leastProof 17 = .ok (.istore_n 3, 1) := by decide +kernel
theorem dX7_leastProof_18 : decode cX7_leastProof 18 = .ok (.aload_n 0, 1) := by decide +kernel
theorem dX7_leastProof_19 : decode cX7_leastProof 19 = .ok (.getfield 18, 3) := by decide +kernel
theorem dX7_leastProof_22 : decode cX7_leastProof 22 = .ok (.invokevirtual 32, 3) := by decide +kernel
theorem dX7_leastProof_25 : decode cX7_leastProof 25 = .ok (.istore 4, 2) := by decide +kernel
theorem dX7_leastProof_27 : decode cX7_leastProof 27 = .ok (.iconst 1, 1) := by decide +kernel
theorem dX7_leastProof_28 : decode cX7_leastProof 28 = .ok (.istore 5, 2) := by decide +kernel
theorem dX7_leastProof_30 : decode cX7_leastProof 30 = .ok (.iload 5, 2) := by decide +kernel
theorem dX7_leastProof_32 : decode cX7_leastProof 32 = .ok (.aload_n 0, 1) := by decide +kernel
theorem dX7_leastProof_33 : decode cX7_leastProof 33 = .ok (.getfield 18, 3) := by decide +kernel
theorem dX7_leastProof_36 : decode cX7_leastProof 36 = .ok (.getfield 38, 3) := by decide +kernel
theorem dX7_leastProof_39 : decode cX7_leastProof 39 = .ok (.if_icmp .ge 73, 3) := by decide +kernel
theorem dX7_leastProof_42 : decode cX7_leastProof 42 = .ok (.iconst 1, 1) := by decide +kernel
theorem dX7_leastProof_43 : decode cX7_leastProof 43 = .ok (.istore 6, 2) := by decide +kernel
theorem dX7_leastProof_45 : decode cX7_leastProof 45 = .ok (.iload 6, 2) := by decide +kernel
theorem dX7_leastProof_47 : decode cX7_leastProof 47 = .ok (.iload 4, 2) := by decide +kernel
theorem dX7_leastProof_49 : decode cX7_leastProof 49 = .ok (.if_icmp .ge 57, 3) := by decide +kernel
theorem dX7_leastProof_52 : decode cX7_leastProof 52 = .ok (.aload_n 0, 1) := by decide +kernel
theorem dX7_leastProof_53 : decode cX7_leastProof 53 = .ok (.iload 6, 2) := by decide +kernel
theorem dX7_leastProof_55 : decode cX7_leastProof 55 = .ok (.iload 5, 2) := by decide +kernel
theorem dX7_leastProof_57 : decode cX7_leastProof 57 = .ok (.iload_n 3, 1) := by decide +kernel
theorem dX7_leastProof_58 : decode cX7_leastProof 58 = .ok (.invokevirtual 42, 3) := by decide +kernel
theorem dX7_leastProof_61 : decode cX7_leastProof 61 = .ok (.ifCond .eq 39, 3) := by decide +kernel
theorem dX7_leastProof_64 : decode cX7_leastProof 64 = .ok (.aload_n 0, 1) := by decide +kernel
theorem dX7_leastProof_65 : decode cX7_leastProof 65 = .ok (.iload 6, 2) := by decide +kernel
theorem dX7_leastProof_67 : decode cX7_leastProof 67 = .ok (.invokevirtual 46, 3) := by decide +kernel
theorem dX7_leastProof_70 : decode cX7_leastProof 70 = .ok (.istore 7, 2) := by decide +kernel
theorem dX7_leastProof_72 : decode cX7_leastProof 72 = .ok (.iload 7, 2) := by decide +kernel
theorem dX7_leastProof_74 : decode cX7_leastProof 74 = .ok (.iconst 3, 1) := by decide +kernel
theorem dX7_leastProof_75 : decode cX7_leastProof 75 = .ok (.if_icmp .ne 5, 3) := by decide +kernel
theorem dX7_leastProof_78 : decode cX7_leastProof 78 = .ok (.iconst (-1), 1) := by decide +kernel
theorem dX7_leastProof_79 : decode cX7_leastProof 79 = .ok (.ireturn, 1) := by decide +kernel
theorem dX7_leastProof_80 : decode cX7_leastProof 80 = .ok (.iload 7, 2) := by decide +kernel
theorem dX7_leastProof_82 : decode cX7_leastProof 82 = .ok (.iconst 2, 1) := by decide +kernel
theorem dX7_leastProof_83 : decode cX7_leastProof 83 = .ok (.if_icmp .ne 17, 3) := by decide +kernel
theorem dX7_leastProof_86 : decode cX7_leastProof 86 = .ok (.aload_n 0, 1) := by decide +kernel
theorem dX7_leastProof_87 : decode cX7_leastProof 87 = .ok (.iload 6, 2) := by decide +kernel
theorem dX7_leastProof_89 : decode cX7_leastProof 89 = .ok (.iload_n 1, 1) := by decide +kernel
theorem dX7_leastProof_90 : decode cX7_leastProof 90 = .ok (.iload_n 2, 1) := by decide +kernel
theorem dX7_leastProof_91 : decode cX7_leastProof 91 = .ok (.invokevirtual 53, 3) := by decide +kernel
theorem dX7_leastProof_94 : decode cX7_leastProof 94 = .ok (.ifCond .eq 6, 3) := by decide +kernel
theorem dX7_leastProof_97 : decode cX7_leastProof 97 = .ok (.iload 6, 2) := by decide +kernel
theorem dX7_leastProof_99 : decode cX7_leastProof 99 = .ok (.ireturn, 1) := by decide +kernel
theorem dX7_leastProof_100 : decode cX7_leastProof 100 = .ok (.iinc 6 1, 3) := by decide +kernel
theorem dX7_leastProof_103 : decode cX7_leastProof 103 = .ok (.goto (-58), 3) := by decide +kernel
theorem dX7_leastProof_106 : decode cX7_leastProof 106 = .ok (.iinc 5 1, 3) := by decide +kernel
theorem dX7_leastProof_109 : decode cX7_leastProof 109 = .ok (.goto (-79), 3) := by decide +kernel
theorem dX7_leastProof_112 : decode cX7_leastProof 112 = .ok (.iload 4, 2) := by decide +kernel
theorem dX7_leastProof_114 : decode cX7_leastProof 114 = .ok (.ireturn, 1) := by decide +kernel
theorem dX7_isLookedAt_0 : decode cX7_isLookedAt 0 = .ok (.iload_n 1, 1) := by decide +kernel
theorem dX7_isLookedAt_1 : decode cX7_isLookedAt 1 = .ok (.invokestatic 56, 3) := by decide +kernel
theorem dX7_isLookedAt_4 : decode cX7_isLookedAt 4 = .ok (.iload_n 2, 1) := by decide +kernel
theorem dX7_isLookedAt_5 : decode cX7_isLookedAt 5 = .ok (.if_icmp .ne 25, 3) := by decide +kernel
theorem dX7_isLookedAt_8 : decode cX7_isLookedAt 8 = .ok (.iload_n 1, 1) := by decide +kernel
theorem dX7_isLookedAt_9 : decode cX7_isLookedAt 9 = .ok (.iload_n 3, 1) := by decide +kernel
theorem dX7_isLookedAt_10 : decode cX7_isLookedAt 10 = .ok (.iand, 1) := by decide +kernel
theorem dX7_isLookedAt_11 : decode cX7_isLookedAt 11 = .ok (.iload_n 3, 1) := by decide +kernel
theorem dX7_isLookedAt_12 : decode cX7_isLookedAt 12 = .ok (.if_icmp .ne 18, 3) := by decide +kernel
theorem dX7_isLookedAt_15 : decode cX7_isLookedAt 15 = .ok (.aload_n 0, 1) := by decide +kernel
theorem dX7_isLookedAt_16 : decode cX7_isLookedAt 16 = .ok (.getfield 18, 3) := by decide +kernel
theorem dX7_isLookedAt_19 : decode cX7_isLookedAt 19 = .ok (.iload_n 1, 1) := by decide +kernel
theorem dX7_isLookedAt_20 : decode cX7_isLookedAt 20 = .ok (.invokevirtual 61, 3) := by decide +kernel
theorem dX7_isLookedAt_23 : decode cX7_isLookedAt 23 = .ok (.ifCond .eq 7, 3) := by decide +kernel
theorem dX7_isLookedAt_26 : decode cX7_isLookedAt 26 = .ok (.iconst 1, 1) := by decide +kernel
theorem dX7_isLookedAt_27 : decode cX7_isLookedAt 27 = .ok (.goto 4, 3) := by decide +kernel
theorem dX7_isLookedAt_30 : decode cX7_isLookedAt 30 = .ok (.iconst 0, 1) := by decide +kernel
theorem dX7_isLookedAt_31 : decode cX7_isLookedAt 31 = .ok (.ireturn, 1) := by decide +kernel
theorem dX7_joins_0 : decode cX7_joins 0 = .ok (.iload_n 1, 1) := by decide +kernel
theorem dX7_joins_1 : decode cX7_joins 1 = .ok (.ifCond .lt 36, 3) := by decide +kernel
theorem dX7_joins_4 : decode cX7_joins 4 = .ok (.iload_n 1, 1) := by decide +kernel
theorem dX7_joins_5 : decode cX7_joins 5 = .ok (.sipush 256, 3) := by decide +kernel
theorem dX7_joins_8 : decode cX7_joins 8 = .ok (.if_icmp .ge 29, 3) := by decide +kernel
theorem dX7_joins_11 : decode cX7_joins 11 = .ok (.aload_n 0, 1) := by decide +kernel
theorem dX7_joins_12 : decode cX7_joins 12 = .ok (.getfield 18, 3) := by decide +kernel
theorem dX7_joins_15 : decode cX7_joins 15 = .ok (.iload_n 2, 1) := by decide +kernel
theorem dX7_joins_16 : decode cX7_joins 16 = .ok (.invokevirtual 65, 3) := by decide +kernel
theorem dX7_joins_19 : decode cX7_joins 19 = .ok (.ifCond .eq 18, 3) := by decide +kernel
theorem dX7_joins_22 : decode cX7_joins 22 = .ok (.aload_n 0, 1) := by decide +kernel
theorem dX7_joins_23 : decode cX7_joins 23 = .ok (.getfield 18, 3) := by decide +kernel
theorem dX7_joins_26 : decode cX7_joins 26 = .ok (.iload_n 3, 1) := by decide +kernel
theorem dX7_joins_27 : decode cX7_joins 27 = .ok (.invokevirtual 65, 3) := by decide +kernel
theorem dX7_joins_30 : decode cX7_joins 30 = .ok (.ifCond .eq 7, 3) := by decide +kernel
theorem dX7_joins_33 : decode cX7_joins 33 = .ok (.iconst 1, 1) := by decide +kernel
theorem dX7_joins_34 : decode cX7_joins 34 = .ok (.goto 4, 3) := by decide +kernel
theorem dX7_joins_37 : decode cX7_joins 37 = .ok (.iconst 0, 1) := by decide +kernel
theorem dX7_joins_38 : decode cX7_joins 38 = .ok (.istore 4, 2) := by decide +kernel
theorem dX7_joins_40 : decode cX7_joins 40 = .ok (.iload 4, 2) := by decide +kernel
theorem dX7_joins_42 : decode cX7_joins 42 = .ok (.ifCond .eq 25, 3) := by decide +kernel
theorem dX7_joins_45 : decode cX7_joins 45 = .ok (.aload_n 0, 1) := by decide +kernel
theorem dX7_joins_46 : decode cX7_joins 46 = .ok (.getfield 15, 3) := by decide +kernel
theorem dX7_joins_49 : decode cX7_joins 49 = .ok (.iload_n 1, 1) := by decide +kernel
theorem dX7_joins_50 : decode cX7_joins 50 = .ok (.bipush 14, 2) := by decide +kernel
theorem dX7_joins_52 : decode cX7_joins 52 = .ok (.imul, 1) := by decide +kernel
theorem dX7_joins_53 : decode cX7_joins 53 = .ok (.iload_n 2, 1) := by decide +kernel
theorem dX7_joins_54 : decode cX7_joins 54 = .ok (.iadd, 1) := by decide +kernel
theorem dX7_joins_55 : decode cX7_joins 55 = .ok (.iaload, 1) := by decide +kernel
theorem dX7_joins_56 : decode cX7_joins 56 = .ok (.iload_n 3, 1) := by decide +kernel
theorem dX7_joins_57 : decode cX7_joins 57 = .ok (.ishr, 1) := by decide +kernel
theorem dX7_joins_58 : decode cX7_joins 58 = .ok (.iconst 1, 1) := by decide +kernel
theorem dX7_joins_59 : decode cX7_joins 59 = .ok (.iand, 1) := by decide +kernel
theorem dX7_joins_60 : decode cX7_joins 60 = .ok (.ifCond .eq 7, 3) := by decide +kernel
theorem dX7_joins_63 : decode cX7_joins 63 = .ok (.iconst 1, 1) := by decide +kernel
theorem dX7_joins_64 : decode cX7_joins 64 = .ok (.goto 4, 3) := by decide +kernel
theorem dX7_joins_67 : decode cX7_joins 67 = .ok (.iconst 0, 1) := by decide +kernel
theorem dX7_joins_68 : decode cX7_joins 68 = .ok (.ireturn, 1) := by decide +kernel
theorem dX7_lookAt_0 : decode cX7_lookAt 0 = .ok (.iload_n 1, 1) := by decide +kernel
theorem dX7_lookAt_1 : decode cX7_lookAt 1 = .ok (.ifCond .lt 10, 3) := by decide +kernel
theorem dX7_lookAt_4 : decode cX7_lookAt 4 = .ok (.iload_n 1, 1) := by decide +kernel
theorem dX7_lookAt_5 : decode cX7_lookAt 5 = .ok (.sipush 256, 3) := by decide +kernel
theorem dX7_lookAt_8 : decode cX7_lookAt 8 = .ok (.if_icmp .lt 5, 3) := by decide +kernel
theorem dX7_lookAt_11 : decode cX7_lookAt 11 = .ok (.iconst 3, 1) := by decide +kernel
theorem dX7_lookAt_12 : decode cX7_lookAt 12 = .ok (.ireturn, 1) := by decide +kernel
theorem dX7_lookAt_13 : decode cX7_lookAt 13 = .ok (.aload_n 0, 1) := by decide +kernel
theorem dX7_lookAt_14 : decode cX7_lookAt 14 = .ok (.getfield 9, 3) := by decide +kernel
theorem dX7_lookAt_17 : decode cX7_lookAt 17 = .ok (.iload_n 1, 1) := by decide +kernel
theorem dX7_lookAt_18 : decode cX7_lookAt 18 = .ok (.iaload, 1) := by decide +kernel
theorem dX7_lookAt_19 : decode cX7_lookAt 19 = .ok (.ifCond .ne 67, 3) := by decide +kernel
theorem dX7_lookAt_22 : decode cX7_lookAt 22 = .ok (.aload_n 0, 1) := by decide +kernel
theorem dX7_lookAt_23 : decode cX7_lookAt 23 = .ok (.getfield 22, 3) := by decide +kernel
theorem dX7_lookAt_26 : decode cX7_lookAt 26 = .ok (.iload_n 1, 1) := by decide +kernel
theorem dX7_lookAt_27 : decode cX7_lookAt 27 = .ok (.invokevirtual 68, 3) := by decide +kernel
theorem dX7_lookAt_30 : decode cX7_lookAt 30 = .ok (.aload_n 0, 1) := by decide +kernel
theorem dX7_lookAt_31 : decode cX7_lookAt 31 = .ok (.getfield 22, 3) := by decide +kernel
theorem dX7_lookAt_34 : decode cX7_lookAt 34 = .ok (.getfield 74, 3) := by decide +kernel
theorem dX7_lookAt_37 : decode cX7_lookAt 37 = .ok (.iconst 0, 1) := by decide +kernel
theorem dX7_lookAt_38 : decode cX7_lookAt 38 = .ok (.aload_n 0, 1) := by decide +kernel
theorem dX7_lookAt_39 : decode cX7_lookAt 39 = .ok (.getfield 15, 3) := by decide +kernel
theorem dX7_lookAt_42 : decode cX7_lookAt 42 = .ok (.iload_n 1, 1) := by decide +kernel
theorem dX7_lookAt_43 : decode cX7_lookAt 43 = .ok (.bipush 14, 2) := by decide +kernel
theorem dX7_lookAt_45 : decode cX7_lookAt 45 = .ok (.imul, 1) := by decide +kernel
theorem dX7_lookAt_46 : decode cX7_lookAt 46 = .ok (.bipush 14, 2) := by decide +kernel
theorem dX7_lookAt_48 : decode cX7_lookAt 48 = .ok (.invokestatic 75, 3) := by decide +kernel
theorem dX7_lookAt_51 : decode cX7_lookAt 51 = .ok (.aload_n 0, 1) := by decide +kernel
theorem dX7_lookAt_52 : decode cX7_lookAt 52 = .ok (.getfield 9, 3) := by decide +kernel
theorem dX7_lookAt_55 : decode cX7_lookAt 55 = .ok (.iload_n 1, 1) := by decide +kernel
theorem dX7_lookAt_56 : decode cX7_lookAt 56 = .ok (.aload_n 0, 1) := by decide +kernel
theorem dX7_lookAt_57 : decode cX7_lookAt 57 = .ok (.getfield 22, 3) := by decide +kernel
theorem dX7_lookAt_60 : decode cX7_lookAt 60 = .ok (.getfield 81, 3) := by decide +kernel
theorem dX7_lookAt_63 : decode cX7_lookAt 63 = .ok (.ifCond .eq 7, 3) := by decide +kernel
theorem dX7_lookAt_66 : decode cX7_lookAt 66 = .ok (.iconst 3, 1) := by decide +kernel
theorem dX7_lookAt_67 : decode cX7_lookAt 67 = .ok (.goto 18, 3) := by decide +kernel
theorem dX7_lookAt_70 : decode cX7_lookAt 70 = .ok (.aload_n 0, 1) := by decide +kernel
theorem dX7_lookAt_71 : decode cX7_lookAt 71 = .ok (.getfield 22, 3) := by decide +kernel
theorem dX7_lookAt_74 : decode cX7_lookAt 74 = .ok (.getfield 85, 3) := by decide +kernel
theorem dX7_lookAt_77 : decode cX7_lookAt 77 = .ok (.ifCond .ne 7, 3) := by decide +kernel
theorem dX7_lookAt_80 : decode cX7_lookAt 80 = .ok (.iconst 1, 1) := by decide +kernel
theorem dX7_lookAt_81 : decode cX7_lookAt 81 = .ok (.goto 4, 3) := by decide +kernel
theorem dX7_lookAt_84 : decode cX7_lookAt 84 = .ok (.iconst 2, 1) := by decide +kernel
theorem dX7_lookAt_85 : decode cX7_lookAt 85 = .ok (.iastore, 1) := by decide +kernel
theorem dX7_lookAt_86 : decode cX7_lookAt 86 = .ok (.aload_n 0, 1) := by decide +kernel
theorem dX7_lookAt_87 : decode cX7_lookAt 87 = .ok (.getfield 9, 3) := by decide +kernel
theorem dX7_lookAt_90 : decode cX7_lookAt 90 = .ok (.iload_n 1, 1) := by decide +kernel
theorem dX7_lookAt_91 : decode cX7_lookAt 91 = .ok (.iaload, 1) := by decide +kernel
theorem dX7_lookAt_92 : decode cX7_lookAt 92 = .ok (.ireturn, 1) := by decide +kernel
theorem dX8_init_0 : decode cX8_init 0 = .ok (.aload_n 0, 1) := by decide +kernel
theorem dX8_init_1 : decode cX8_init 1 = .ok (.invokespecial 5, 3) := by decide +kernel
theorem dX8_init_4 : decode cX8_init 4 = .ok (.aload_n 0, 1) := by decide +kernel
theorem dX8_init_5 : decode cX8_init 5 = .ok (.bipush 14, 2) := by decide +kernel
theorem dX8_init_7 : decode cX8_init 7 = .ok (.newarray .int, 2) := by decide +kernel
theorem dX8_init_9 : decode cX8_init 9 = .ok (.putfield 11, 3) := by decide +kernel
theorem dX8_init_12 : decode cX8_init 12 = .ok (.aload_n 0, 1) := by decide +kernel
theorem dX8_init_13 : decode cX8_init 13 = .ok (.bipush 14, 2) := by decide +kernel
theorem dX8_init_15 : decode cX8_init 15 = .ok (.newarray .int, 2) := by decide +kernel
theorem dX8_init_17 : decode cX8_init 17 = .ok (.putfield 15, 3) := by decide +kernel
theorem dX8_init_20 : decode cX8_init 20 = .ok (.aload_n 0, 1) := by decide +kernel
theorem dX8_init_21 : decode cX8_init 21 = .ok (.bipush 14, 2) := by decide +kernel
theorem dX8_init_23 : decode cX8_init 23 = .ok (.newarray .int, 2) := by decide +kernel
theorem dX8_init_25 : decode cX8_init 25 = .ok (.putfield 18, 3) := by decide +kernel
theorem dX8_init_28 : decode cX8_init 28 = .ok (.aload_n 0, 1) := by decide +kernel
theorem dX8_init_29 : decode cX8_init 29 = .ok (.bipush 14, 2) := by decide +kernel
theorem dX8_init_31 : decode cX8_init 31 = .ok (.newarray .int, 2) := by decide +kernel
theorem dX8_init_33 : decode cX8_init 33 = .ok (.putfield 21, 3) := by decide +kernel
theorem dX8_init_36 : decode cX8_init 36 = .ok (.aload_n 0, 1) := by decide +kernel
theorem dX8_init_37 : decode cX8_init 37 = .ok (.bipush 14, 2) := by decide +kernel
theorem dX8_init_39 : decode cX8_init 39 = .ok (.newarray .int, 2) := by decide +kernel
theorem dX8_init_41 : decode cX8_init 41 = .ok (.putfield 24, 3) := by decide +kernel
theorem dX8_init_44 : decode cX8_init 44 = .ok (.aload_n 0, 1) := by decide +kernel
theorem dX8_init_45 : decode cX8_init 45 = .ok (.bipush 14, 2) := by decide +kernel
theorem dX8_init_47 : decode cX8_init 47 = .ok (.newarray .int, 2) := by decide +kernel
theorem dX8_init_49 : decode cX8_init 49 = .ok (.putfield 27, 3) := by decide +kernel
theorem dX8_init_52 : decode cX8_init 52 = .ok (.aload_n 0, 1) := by decide +kernel
theorem dX8_init_53 : decode cX8_init 53 = .ok (.sipush 196, 3) := by decide +kernel
theorem dX8_init_56 : decode cX8_init 56 = .ok (.newarray .int, 2) := by decide +kernel
theorem dX8_init_58 : decode cX8_init 58 = .ok (.putfield 30, 3) := by decide +kernel
theorem dX8_init_61 : decode cX8_init 61 = .ok (.aload_n 0, 1) := by decide +kernel
theorem dX8_init_62 : decode cX8_init 62 = .ok (.iconst 0, 1) := by decide +kernel
theorem dX8_init_63 : decode cX8_init 63 = .ok (.putfield 33, 3) := by decide +kernel
theorem dX8_init_66 : decode cX8_init 66 = .ok (.aload_n 0, 1) := by decide +kernel
theorem dX8_init_67 : decode cX8_init 67 = .ok (.iconst 0, 1) := by decide +kernel
theorem dX8_init_68 : decode cX8_init 68 = .ok (.putfield 37, 3) := by decide +kernel
theorem dX8_init_71 : decode cX8_init 71 = .ok (.aload_n 0, 1) := by decide +kernel
theorem dX8_init_72 : decode cX8_init 72 = .ok (.aload_n 1, 1) := by decide +kernel
theorem dX8_init_73 : decode cX8_init 73 = .ok (.putfield 40, 3) := by decide +kernel
theorem dX8_init_76 : decode cX8_init 76 = .ok (.aload_n 0, 1) := by decide +kernel
theorem dX8_init_77 : decode cX8_init 77 = .ok (.aload_n 2, 1) := by decide +kernel
theorem dX8_init_78 : decode cX8_init 78 = .ok (.putfield 44, 3) := by decide +kernel
theorem dX8_init_81 : decode cX8_init 81 = .ok (.aload_n 0, 1) := by decide +kernel
theorem dX8_init_82 : decode cX8_init 82 = .ok (.aload_n 3, 1) := by decide +kernel
theorem dX8_init_83 : decode cX8_init 83 = .ok (.putfield 48, 3) := by decide +kernel
theorem dX8_init_86 : decode cX8_init 86 = .ok (.return_, 1) := by decide +kernel
theorem dX8_prepare_0 : decode cX8_prepare 0 = .ok (.aload_n 0, 1) := by decide +kernel
theorem dX8_prepare_1 : decode cX8_prepare 1 = .ok (.aload_n 0, 1) := by decide +kernel
theorem dX8_prepare_2 : decode cX8_prepare 2 = .ok (.getfield 44, 3) := by decide +kernel
theorem dX8_prepare_5 : decode cX8_prepare 5 = .ok (.getfield 52, 3) := by decide +kernel
theorem dX8_prepare_8 : decode cX8_prepare 8 = .ok (.putfield 33, 3) := by decide +kernel
theorem dX8_prepare_11 : decode cX8_prepare 11 = .ok (.aload_n 0, 1) := by decide +kernel
theorem dX8_prepare_12 : decode cX8_prepare 12 = .ok (.aload_n 0, 1) := by decide +kernel
theorem dX8_prepare_13 : decode cX8_prepare 13 = .ok (.getfield 44, 3) := by decide +kernel
theorem dX8_prepare_16 : decode cX8_prepare 16 = .ok (.getfield 55, 3) := by decide +kernel
theorem dX8_prepare_19 : decode cX8_prepare 19 = .ok (.putfield 37, 3) := by decide +kernel
theorem dX8_prepare_22 : decode cX8_prepare 22 = .ok (.iconst 0, 1) := by decide +kernel
theorem dX8_prepare_23 : decode cX8_prepare 23 = .ok (.istore_n 1, 1) := by decide +kernel
theorem dX8_prepare_24 : decode cX8_prepare 24 = .ok (.iload_n 1, 1) := by decide +kernel
theorem dX8_prepare_25 : decode cX8_prepare 25 = .ok (.aload_n 0, 1) := by decide +kernel
theorem dX8_prepare_26 : decode cX8_prepare 26 = .ok (.getfield 40, 3) := by decide +kernel
theorem dX8_prepare_29 : decode cX8_prepare 29 = .ok (.getfield 56, 3) := by decide +kernel
theorem dX8_prepare_32 : decode cX8_prepare 32 = .ok (.if_icmp .ge 30, 3) := by decide +kernel
theorem dX8_prepare_35 : decode cX8_prepare 35 = .ok (.iload_n 1, 1) := by decide +kernel
theorem dX8_prepare_36 : decode cX8_prepare 36 = .ok (.bipush 14, 2) := by decide +kernel
theorem dX8_prepare_38 : decode cX8_prepare 38 = .ok (.if_icmp .ge 24, 3) := by decide +kernel
theorem dX8_prepare_41 : decode cX8_prepare 41 = .ok (.aload_n 0, 1) := by decide +kernel
theorem dX8_prepare_42 : decode cX8_prepare 42 = .ok (.iload_n 1, 1) := by decide +kernel
theorem dX8_prepare_43 : decode cX8_prepare 43 = .ok (.invokevirtual 61, 3) := by decide +kernel
theorem dX8_prepare_46 : decode cX8_prepare 46 = .ok (.aload_n 0, 1) := by decide +kernel
theorem dX8_prepare_47 : decode cX8_prepare 47 = .ok (.iload_n 1, 1) := by decide +kernel
theorem dX8_prepare_48 : decode cX8_prepare 48 = .ok (.invokevirtual 65, 3) := by decide +kernel
theorem dX8_prepare_51 : decode cX8_prepare 51 = .ok (.aload_n 0, 1) := by decide +kernel
theorem dX8_prepare_52 : decode cX8_prepare 52 = .ok (.iload_n 1, 1) := by decide +kernel
theorem dX8_prepare_53 : decode cX8_prepare 53 = .ok (.invokevirtual 68, 3) := by decide +kernel
theorem dX8_prepare_56 : decode cX8_prepare 56 = .ok (.iinc 1 1, 3) := by decide +kernel
theorem dX8_prepare_59 : decode cX8_prepare 59 = .ok (.goto (-35), 3) := by decide +kernel
theorem dX8_prepare_62 : decode cX8_prepare 62 = .ok (.return_, 1) := by decide +kernel
theorem dX8_prepareYears_0 : decode cX8_prepareYears 0 = .ok (.aload_n 0, 1) := by decide +kernel
theorem dX8_prepareYears_1 : decode cX8_prepareYears 1 = .ok (.getfield 40, 3) := by decide +kernel
theorem dX8_prepareYears_4 : decode cX8_prepareYears 4 = .ok (.getfield 71, 3) := by decide +kernel
theorem dX8_prepareYears_7 : decode cX8_prepareYears 7 = .ok (.iload_n 1, 1) := by decide +kernel
theorem dX8_prepareYears_8 : decode cX8_prepareYears 8 = .ok (.iaload, 1) := by decide +kernel
theorem dX8_prepareYears_9 : decode cX8_prepareYears 9 = .ok (.istore_n 2, 1) := by decide +kernel
theorem dX8_prepareYears_10 : decode cX8_prepareYears 10 = .ok (.aload_n 0, 1) := by decide +kernel
theorem dX8_prepareYears_11 : decode cX8_prepareYears 11 = .ok (.getfield 40, 3) := by decide +kernel
theorem dX8_prepareYears_14 : decode cX8_prepareYears 14 = .ok (.getfield 74, 3) := by decide +kernel
theorem dX8_prepareYears_17 : decode cX8_prepareYears 17 = .ok (.iload_n 1, 1) := by decide +kernel
theorem dX8_prepareYears_18 : decode cX8_prepareYears 18 = .ok (.iaload, 1) := by decide +kernel
theorem dX8_prepareYears_19 : decode cX8_prepareYears 19 = .ok (.istore_n 3, 1) := by decide +kernel
theorem dX8_prepareYears_20 : decode cX8_prepareYears 20 = .ok (.aload_n 0, 1) := by decide +kernel
theorem dX8_prepareYears_21 : decode cX8_prepareYears 21 = .ok (.getfield 11, 3) := by decide +kernel
theorem dX8_prepareYears_24 : decode cX8_prepareYears 24 = .ok (.iload_n 1, 1) := by decide +kernel
theorem dX8_prepareYears_25 : decode cX8_prepareYears 25 = .ok (.aload_n 0, 1) := by decide +kernel
theorem dX8_prepareYears_26 : decode cX8_prepareYears 26 = .ok (.getfield 44, 3) := by decide +kernel
theorem dX8_prepareYears_29 : decode cX8_prepareYears 29 = .ok (.iload_n 2, 1) := by decide +kernel
theorem dX8_prepareYears_30 : decode cX8_prepareYears 30 = .ok (.iload_n 3, 1) := by decide +kernel
theorem dX8_prepareYears_31 : decode cX8_prepareYears 31 = .ok (.aload_n 0, 1) := by decide +kernel
theorem dX8_prepareYears_32 : decode cX8_prepareYears 32 = .ok (.getfield 40, 3) := by decide +kernel
theorem dX8_prepareYears_35 : decode cX8_prepareYears 35 = .ok (.getfield 77, 3) := by decide +kernel
theorem dX8_prepareYears_38 : decode cX8_prepareYears 38 = .ok (.iload_n 1, 1) := by decide +kernel
theorem dX8_prepareYears_39 : decode cX8_prepareYears 39 = .ok (.iaload, 1) := by decide +kernel
theorem dX8_prepareYears_40 : decode cX8_prepareYears 40 = .ok (.invokevirtual 80, 3) := by decide +kernel
theorem dX8_prepareYears_43 : decode cX8_prepareYears 43 = .ok (.iastore, 1) := by decide +kernel
theorem dX8_prepareYears_44 : decode cX8_prepareYears 44 = .ok (.aload_n 0, 1) := by decide +kernel
theorem dX8_prepareYears_45 : decode cX8_prepareYears 45 = .ok (.getfield 15, 3) := by decide +kernel
theorem dX8_prepareYears_48 : decode cX8_prepareYears 48 = .ok (.iload_n 1, 1) := by decide +kernel
theorem dX8_prepareYears_49 : decode cX8_prepareYears 49 = .ok (.aload_n 0, 1) := by decide +kernel
theorem dX8_prepareYears_50 : decode cX8_prepareYears 50 = .ok (.getfield 44, 3) := by decide +kernel
theorem dX8_prepareYears_53 : decode cX8_prepareYears 53 = .ok (.iload_n 2, 1) := by decide +kernel
theorem dX8_prepareYears_54 : decode cX8_prepareYears 54 = .ok (.iload_n 3, 1) := by decide +kernel
theorem dX8_prepareYears_55 : decode cX8_prepareYears 55 = .ok (.aload_n 0, 1) := by decide +kernel
theorem dX8_prepareYears_56 : decode cX8_prepareYears 56 = .ok (.getfield 40, 3) := by decide +kernel
theorem dX8_prepareYears_59 : decode cX8_prepareYears 59 = .ok (.getfield 77, 3) := by decide +kernel
theorem dX8_prepareYears_62 : decode cX8_prepareYears 62 = .ok (.iload_n 1, 1) := by decide +kernel
theorem dX8_prepareYears_63 : decode cX8_prepareYears 63 = .ok (.iaload, 1) := by decide +kernel
theorem dX8_prepareYears_64 : decode cX8_prepareYears 64 = .ok (.invokevirtual 84, 3) := by decide +kernel
theorem dX8_prepareYears_67 : decode cX8_prepareYears 67 = .ok (.iastore, 1) := by decide +kernel
theorem dX8_prepareYears_68 : decode cX8_prepareYears 68 = .ok (.aload_n 0, 1) := by decide +kernel
theorem dX8_prepareYears_69 : decode cX8_prepareYears 69 = .ok (.getfield 24, 3) := by decide +kernel
theorem dX8_prepareYears_72 : decode cX8_prepareYears 72 = .ok (.iload_n 1, 1) := by decide +kernel
theorem dX8_prepareYears_73 : decode cX8_prepareYears 73 = .ok (.iload_n 2, 1) := by decide +kernel
theorem dX8_prepareYears_74 : decode cX8_prepareYears 74 = .ok (.iconst 2, 1) := by decide +kernel
theorem dX8_prepareYears_75 : decode cX8_prepareYears 75 = .ok (.if_icmp .ne 9, 3) := by decide +kernel
theorem dX8_prepareYears_78 : decode cX8_prepareYears 78 = .ok (.iload_n 3, 1) := by decide +kernel
theorem dX8_prepareYears_79 : decode cX8_prepareYears 79 = .ok (.iconst 1, 1) := by decide +kernel
theorem dX8_prepareYears_80 : decode cX8_prepareYears 80 = .ok (.isub, 1) := by decide +kernel
theorem dX8_prepareYears_81 : decode cX8_prepareYears 81 = .ok (.goto 4, 3) := by decide +kernel
theorem dX8_prepareYears_84 : decode cX8_prepareYears 84 = .ok (.iload_n 3, 1) := by decide +kernel
theorem dX8_prepareYears_85 : decode cX8_prepareYears 85 = .ok (.iastore, 1) := by decide +kernel
theorem dX8_prepareYears_86 : decode cX8_prepareYears 86 = .ok (.aload_n 0, 1) := by decide +kernel
theorem dX8_prepareYears_87 : decode cX8_prepareYears 87 = .ok (.getfield 27, 3) := by decide +kernel
theorem dX8_prepareYears_90 : decode cX8_prepareYears 90 = .ok (.iload_n 1, 1) := by decide +kernel
theorem dX8_prepareYears_91 : decode cX8_prepareYears 91 = .ok (.iload_n 2, 1) := by decide +kernel
theorem dX8_prepareYears_92 : decode cX8_prepareYears 92 = .ok (.iconst 5, 1) := by decide +kernel
theorem dX8_prepareYears_93 : decode cX8_prepareYears 93 = .ok (.if_icmp .ne 7, 3) := by decide +kernel
theorem dX8_prepareYears_96 : decode cX8_prepareYears 96 = .ok (.iload_n 3, 1) := by decide +kernel
theorem dX8_prepareYears_97 : decode cX8_prepareYears 97 = .ok (.goto 5, 3) := by decide +kernel
theorem dX8_prepareYears_100 : decode cX8_prepareYears 100 = .ok (.ldc 87, 2) := by decide +kernel
theorem dX8_prepareYears_102 : decode cX8_prepareYears 102 = .ok (.iastore, 1) := by decide +kernel
theorem dX8_prepareYears_103 : decode cX8_prepareYears 103 = .ok (.return_, 1) := by decide +kernel
theorem dX8_prepareMarks_0 : decode cX8_prepareMarks 0 = .ok (.aload_n 0, 1) := by decide +kernel
theorem dX8_prepareMarks_1 : decode cX8_prepareMarks 1 = .ok (.getfield 40, 3) := by decide +kernel
theorem dX8_prepareMarks_4 : decode cX8_prepareMarks 4 = .ok (.iload_n 1, 1) := by decide +kernel
theorem dX8_prepareMarks_5 : decode cX8_prepareMarks 5 = .ok (.invokevirtual 88, 3) := by decide +kernel
theorem dX8_prepareMarks_8 : decode cX8_prepareMarks 8 = .ok (.istore_n 2, 1) := by decide +kernel
theorem dX8_prepareMarks_9 : decode cX8_prepareMarks 9 = .ok (.iload_n 2, 1) := by decide +kernel
theorem dX8_prepareMarks_10 : decode cX8_prepareMarks 10 = .ok (.istore_n 3, 1) := by decide +kernel
theorem dX8_prepareMarks_11 : decode cX8_prepareMarks 11 = .ok (.aload_n 0, 1) := by decide +kernel
theorem dX8_prepareMarks_12 : decode cX8_prepareMarks 12 = .ok (.getfield 40, 3) := by decide +kernel
theorem dX8_prepareMarks_15 : decode cX8_prepareMarks 15 = .ok (.getfield 71, 3) := by decide +kernel
theorem dX8_prepareMarks_18 : decode cX8_prepareMarks 18 = .ok (.iload_n 1, 1) := by decide +kernel
theorem dX8_prepareMarks_19 : decode cX8_prepareMarks 19 = .ok (.iaload, 1) := by decide +kernel
theorem dX8_prepareMarks_20 : decode cX8_prepareMarks 20 = .ok (.ifCond .ne 15, 3) := by decide +kernel
theorem dX8_prepareMarks_23 : decode cX8_prepareMarks 23 = .ok (.iload_n 2, 1) := by decide +kernel
theorem dX8_prepareMarks_24 : decode cX8_prepareMarks 24 = .ok (.sipush 256, 3) := by decide +kernel
theorem dX8_prepareMarks_27 : decode cX8_prepareMarks 27 = .ok (.ior, 1) := by decide +kernel
theorem dX8_prepareMarks_28 : decode cX8_prepareMarks 28 = .ok (.istore_n 2, 1) := by decide +kernel
theorem dX8_prepareMarks_29 : decode cX8_prepareMarks 29 = .ok (.iload_n 3, 1) := by decide +kernel
theorem dX8_prepareMarks_30 : decode cX8_prepareMarks 30 = .ok (.sipush 256, 3) := by decide +kernel
theorem dX8_prepareMarks_33 : decode cX8_prepareMarks 33 = .ok (.ior, 1) := by decide +kernel
theorem dX8_prepareMarks_34 : decode cX8_prepareMarks 34 = .ok (.istore_n 3, 1) := by decide +kernel
theorem dX8_prepareMarks_35 : decode cX8_prepareMarks 35 = .ok (.aload_n 0, 1) := by decide +kernel
theorem dX8_prepareMarks_36 : decode cX8_prepareMarks 36 = .ok (.getfield 40, 3) := by decide +kernel
theorem dX8_prepareMarks_39 : decode cX8_prepareMarks 39 = .ok (.getfield 71, 3) := by decide +kernel
theorem dX8_prepareMarks_42 : decode cX8_prepareMarks 42 = .ok (.iload_n 1, 1) := by decide +kernel
theorem dX8_prepareMarks_43 : decode cX8_prepareMarks 43 = .ok (.iaload, 1) := by decide +kernel
theorem dX8_prepareMarks_44 : decode cX8_prepareMarks 44 = .ok (.iconst 5, 1) := by decide +kernel
theorem dX8_prepareMarks_45 : decode cX8_prepareMarks 45 = .ok (.if_icmp .ne 15, 3) := by decide +kernel
theorem dX8_prepareMarks_48 : decode cX8_prepareMarks 48 = .ok (.iload_n 2, 1) := by decide +kernel
theorem dX8_prepareMarks_49 : decode cX8_prepareMarks 49 = .ok (.sipush 512, 3) := by decide +kernel
theorem dX8_prepareMarks_52 : decode cX8_prepareMarks 52 = .ok (.ior, 1) := by decide +kernel
theorem dX8_prepareMarks_53 : decode cX8_prepareMarks 53 = .ok (.istore_n 2, 1) := by decide +kernel
theorem dX8_prepareMarks_54 : decode cX8_prepareMarks 54 = .ok (.iload_n 3, 1) := by decide +kernel
theorem dX8_prepareMarks_55 : decode cX8_prepareMarks 55 = .ok (.sipush 512, 3) := by decide +kernel
theorem dX8_prepareMarks_58 : decode cX8_prepareMarks 58 = .ok (.ior, 1) := by decide +kernel
theorem dX8_prepareMarks_59 : decode cX8_prepareMarks 59 = .ok (.istore_n 3, 1) := by decide +kernel
theorem dX8_prepareMarks_60 : decode cX8_prepareMarks 60 = .ok (.aload_n 0, 1) := by decide +kernel
theorem dX8_prepareMarks_61 : decode cX8_prepareMarks 61 = .ok (.getfield 40, 3) := by decide +kernel
theorem dX8_prepareMarks_64 : decode cX8_prepareMarks 64 = .ok (.getfield 92, 3) := by decide +kernel
theorem dX8_prepareMarks_67 : decode cX8_prepareMarks 67 = .ok (.iload_n 1, 1) := by decide +kernel
theorem dX8_prepareMarks_68 : decode cX8_prepareMarks 68 = .ok (.iaload, 1) := by decide +kernel
theorem dX8_prepareMarks_69 : decode cX8_prepareMarks 69 = .ok (.iconst 1, 1) := by decide +kernel
theorem dX8_prepareMarks_70 : decode cX8_prepareMarks 70 = .ok (.if_icmp .ne 15, 3) := by decide +kernel
theorem dX8_prepareMarks_73 : decode cX8_prepareMarks 73 = .ok (.iload_n 2, 1) := by decide +kernel
theorem dX8_prepareMarks_74 : decode cX8_prepareMarks 74 = .ok (.sipush 1024, 3) := by decide +kernel
theorem dX8_prepareMarks_77 : decode cX8_prepareMarks 77 = .ok (.ior, 1) := by decide +kernel
theorem dX8_prepareMarks_78 : decode cX8_prepareMarks 78 = .ok (.istore_n 2, 1) := by decide +kernel
theorem dX8_prepareMarks_79 : decode cX8_prepareMarks 79 = .ok (.iload_n 3, 1) := by decide +kernel
theorem dX8_prepareMarks_80 : decode cX8_prepareMarks 80 = .ok (.sipush 2048, 3) := by decide +kernel
theorem dX8_prepareMarks_83 : decode cX8_prepareMarks 83 = .ok (.ior, 1) := by decide +kernel
theorem dX8_prepareMarks_84 : decode cX8_prepareMarks 84 = .ok (.istore_n 3, 1) := by decide +kernel
theorem dX8_prepareMarks_85 : decode cX8_prepareMarks 85 = .ok (.aload_n 0, 1) := by decide +kernel
theorem dX8_prepareMarks_86 : decode cX8_prepareMarks 86 = .ok (.getfield 40, 3) := by decide +kernel
theorem dX8_prepareMarks_89 : decode cX8_prepareMarks 89 = .ok (.getfield 92, 3) := by decide +kernel
theorem dX8_prepareMarks_92 : decode cX8_prepareMarks 92 = .ok (.iload_n 1, 1) := by decide +kernel
theorem dX8_prepareMarks_93 : decode cX8_prepareMarks 93 = .ok (.iaload, 1) := by decide +kernel
theorem dX8_prepareMarks_94 : decode cX8_prepareMarks 94 = .ok (.iconst 2, 1) := by decide +kernel
theorem dX8_prepareMarks_95 : decode cX8_prepareMarks 95 = .ok (.if_icmp .ne 15, 3) := by decide +kernel
theorem dX8_prepareMarks_98 : decode cX8_prepareMarks 98 = .ok (.iload_n 2, 1) := by decide +kernel
theorem dX8_prepareMarks_99 : decode cX8_prepareMarks 99 = .ok (.sipush 2048, 3) := by decide +kernel
theorem dX8_prepareMarks_102 : decode cX8_prepareMarks 102 = .ok (.ior, 1) := by decide +kernel
theorem dX8_prepareMarks_103 : decode cX8_prepareMarks 103 = .ok (.istore_n 2, 1) := by decide +kernel
theorem dX8_prepareMarks_104 : decode cX8_prepareMarks 104 = .ok (.iload_n 3, 1) := by decide +kernel
theorem dX8_prepareMarks_105 : decode cX8_prepareMarks 105 = .ok (.sipush 1024, 3) := by decide +kernel
theorem dX8_prepareMarks_108 : decode cX8_prepareMarks 108 = .ok (.ior, 1) := by decide +kernel
theorem dX8_prepareMarks_109 : decode cX8_prepareMarks 109 = .ok (.istore_n 3, 1) := by decide +kernel
theorem dX8_prepareMarks_110 : decode cX8_prepareMarks 110 = .ok (.aload_n 0, 1) := by decide +kernel
theorem dX8_prepareMarks_111 : decode cX8_prepareMarks 111 = .ok (.getfield 18, 3) := by decide +kernel
theorem dX8_prepareMarks_114 : decode cX8_prepareMarks 114 = .ok (.iload_n 1, 1) := by decide +kernel
theorem dX8_prepareMarks_115 : decode cX8_prepareMarks 115 = .ok (.iload_n 2, 1) := by decide +kernel
theorem dX8_prepareMarks_116 : decode cX8_prepareMarks 116 = .ok (.iastore, 1) := by decide +kernel
theorem dX8_prepareMarks_117 : decode cX8_prepareMarks 117 = .ok (.aload_n 0, 1) := by decide +kernel
theorem dX8_prepareMarks_118 : decode cX8_prepareMarks 118 = .ok (.getfield 21, 3) := by decide +kernel
theorem dX8_prepareMarks_121 : decode cX8_prepareMarks 121 = .ok (.iload_n 1, 1) := by decide +kernel
theorem dX8_prepareMarks_122 : decode cX8_prepareMarks 122 = .ok (.iload_n 3, 1) := by decide +kernel
theorem dX8_prepareMarks_123 : decode cX8_prepareMarks 123 = .ok (.iastore, 1) := by decide +kernel
theorem dX8_prepareMarks_124 : decode cX8_prepareMarks 124 = .ok (.return_, 1) := by decide +kernel
theorem dX8_prepareDistances_0 : decode cX8_prepareDistances 0 = .ok (.iconst 0, 1) := by decide +kernel
theorem dX8_prepareDistances_1 : decode cX8_prepareDistances 1 = .ok (.istore_n 2, 1) := by decide +kernel
theorem dX8_prepareDistances_2 : decode cX8_prepareDistances 2 = .ok (.iload_n 2, 1) := by decide +kernel
theorem dX8_prepareDistances_3 : decode cX8_prepareDistances 3 = .ok (.iload_n 1, 1) := by decide +kernel
theorem dX8_prepareDistances_4 : decode cX8_prepareDistances 4 = .ok (.if_icmp .ge 59, 3) := by decide +kernel
theorem dX8_prepareDistances_7 : decode cX8_prepareDistances 7 = .ok (.aload_n 0, 1) := by decide +kernel
theorem dX8_prepareDistances_8 : decode cX8_prepareDistances 8 = .ok (.getfield 48, 3) := by decide +kernel
theorem dX8_prepareDistances_11 : decode cX8_prepareDistances 11 = .ok (.aload_n 0, 1) := by decide +kernel
theorem dX8_prepareDistances_12 : decode cX8_prepareDistances 12 = .ok (.getfield 40, 3) := by decide +kernel
theorem dX8_prepareDistances_15 : decode cX8_prepareDistances 15 = .ok (.getfield 95, 3) := by decide +kernel
theorem dX8_prepareDistances_18 : decode cX8_prepareDistances 18 = .ok (.iload_n 1, 1) := by decide +kernel
theorem dX8_prepareDistances_19 : decode cX8_prepareDistances 19 = .ok (.laload, 1) := by decide +kernel
theorem dX8_prepareDistances_20 : decode cX8_prepareDistances 20 = .ok (.aload_n 0, 1) := by decide +kernel
theorem dX8_prepareDistances_21 : decode cX8_prepareDistances 21 = .ok (.getfield 40, 3) := by decide +kernel
theorem dX8_prepareDistances_24 : decode cX8_prepareDistances 24 = .ok (.getfield 95, 3) := by decide +kernel
theorem dX8_prepareDistances_27 : decode cX8_prepareDistances 27 = .ok (.iload_n 2, 1) := by decide +kernel
theorem dX8_prepareDistances_28 : decode cX8_prepareDistances 28 = .ok (.laload, 1) := by decide +kernel
theorem dX8_prepareDistances_29 : decode cX8_prepareDistances 29 = .ok (.invokevirtual 99, 3) := by decide +kernel
theorem dX8_prepareDistances_32 : decode cX8_prepareDistances 32 = .ok (.istore_n 3, 1) := by decide +kernel
theorem dX8_prepareDistances_33 : decode cX8_prepareDistances 33 = .ok (.aload_n 0, 1) := by decide +kernel
theorem dX8_prepareDistances_34 : decode cX8_prepareDistances 34 = .ok (.getfield 30, 3) := by decide +kernel
theorem dX8_prepareDistances_37 : decode cX8_prepareDistances 37 = .ok (.iload_n 1, 1) := by decide +kernel
theorem dX8_prepareDistances_38 : decode cX8_prepareDistances 38 = .ok (.bipush 14, 2) := by decide +kernel
theorem dX8_prepareDistances_40 : decode cX8_prepareDistances 40 = .ok (.imul, 1) := by decide +kernel
theorem dX8_prepareDistances_41 : decode cX8_prepareDistances 41 = .ok (.iload_n 2, 1) := by decide +kernel
theorem dX8_prepareDistances_42 : decode cX8_prepareDistances 42 = .ok (.iadd, 1) := by decide +kernel
theorem dX8_prepareDistances_43 : decode cX8_prepareDistances 43 = .ok (.iload_n 3, 1) := by decide +kernel
theorem dX8_prepareDistances_44 : decode cX8_prepareDistances 44 = .ok (.iastore, 1) := by decide +kernel
theorem dX8_prepareDistances_45 : decode cX8_prepareDistances 45 = .ok (.aload_n 0, 1) := by decide +kernel
theorem dX8_prepareDistances_46 : decode cX8_prepareDistances 46 = .ok (.getfield 30, 3) := by decide +kernel
theorem dX8_prepareDistances_49 : decode cX8_prepareDistances 49 = .ok (.iload_n 2, 1) := by decide +kernel
theorem dX8_prepareDistances_50 : decode cX8_prepareDistances 50 = .ok (.bipush 14, 2) := by decide +kernel
theorem dX8_prepareDistances_52 : decode cX8_prepareDistances 52 = .ok (.imul, 1) := by decide +kernel
theorem dX8_prepareDistances_53 : decode cX8_prepareDistances 53 = .ok (.iload_n 1, 1) := by decide +kernel
theorem dX8_prepareDistances_54 : decode cX8_prepareDistances 54 = .ok (.iadd, 1) := by decide +kernel
theorem dX8_prepareDistances_55 : decode cX8_prepareDistances 55 = .ok (.iload_n 3, 1) := by decide +kernel
theorem dX8_prepareDistances_56 : decode cX8_prepareDistances 56 = .ok (.iastore, 1) := by decide +kernel
theorem dX8_prepareDistances_57 : decode cX8_prepareDistances 57 = .ok (.iinc 2 1, 3) := by decide +kernel
theorem dX8_prepareDistances_60 : decode cX8_prepareDistances 60 = .ok (.goto (-58), 3) := by decide +kernel
theorem dX8_prepareDistances_63 : decode cX8_prepareDistances 63 = .ok (.return_, 1) := by decide +kernel
theorem dX9_init_0 : decode cX9_init 0 = .ok (.aload_n 0, 1) := by decide +kernel
theorem dX9_init_1 : decode cX9_init 1 = .ok (.invokespecial 3, 3) := by decide +kernel
theorem dX9_init_4 : decode cX9_init 4 = .ok (.aload_n 0, 1) := by decide +kernel
theorem dX9_init_5 : decode cX9_init 5 = .ok (.new 9, 3) := by decide +kernel
theorem dX9_init_8 : decode cX9_init 8 = .ok (.dup, 1) := by decide +kernel
theorem dX9_init_9 : decode cX9_init 9 = .ok (.invokespecial 11, 3) := by decide +kernel
theorem dX9_init_12 : decode cX9_init 12 = .ok (.putfield 12, 3) := by decide +kernel
theorem dX9_init_15 : decode cX9_init 15 = .ok (.aload_n 0, 1) := by decide +kernel
theorem dX9_init_16 : decode cX9_init 16 = .ok (.new 16, 3) := by decide +kernel
theorem dX9_init_19 : decode cX9_init 19 = .ok (.dup, 1) := by decide +kernel
theorem dX9_init_20 : decode cX9_init 20 = .ok (.invokespecial 18, 3) := by decide +kernel
theorem dX9_init_23 : decode cX9_init 23 = .ok (.putfield 19, 3) := by decide +kernel
theorem dX9_init_26 : decode cX9_init 26 = .ok (.aload_n 0, 1) := by decide +kernel
theorem dX9_init_27 : decode cX9_init 27 = .ok (.new 23, 3) := by decide +kernel
theorem dX9_init_30 : decode cX9_init 30 = .ok (.dup, 1) := by decide +kernel
theorem dX9_init_31 : decode cX9_init 31 = .ok (.invokespecial 25, 3) := by decide +kernel
theorem dX9_init_34 : decode cX9_init 34 = .ok (.putfield 26, 3) := by decide +kernel
theorem dX9_init_37 : decode cX9_init 37 = .ok (.aload_n 0, 1) := by decide +kernel
theorem dX9_init_38 : decode cX9_init 38 = .ok (.new 30, 3) := by decide +kernel
theorem dX9_init_41 : decode cX9_init 41 = .ok (.dup, 1) := by decide +kernel
theorem dX9_init_42 : decode cX9_init 42 = .ok (.aload_n 0, 1) := by decide +kernel
theorem dX9_init_43 : decode cX9_init 43 = .ok (.getfield 12, 3) := by decide +kernel
theorem dX9_init_46 : decode cX9_init 46 = .ok (.aload_n 0, 1) := by decide +kernel
theorem dX9_init_47 : decode cX9_init 47 = .ok (.getfield 19, 3) := by decide +kernel
theorem dX9_init_50 : decode cX9_init 50 = .ok (.aload_n 0, 1) := by decide +kernel
theorem dX9_init_51 : decode cX9_init 51 = .ok (.getfield 26, 3) := by decide +kernel
theorem dX9_init_54 : decode cX9_init 54 = .ok (.invokespecial 32, 3) := by decide +kernel
theorem dX9_init_57 : decode cX9_init 57 = .ok (.putfield 35, 3) := by decide +kernel
theorem dX9_init_60 : decode cX9_init 60 = .ok (.aload_n 0, 1) := by decide +kernel
theorem dX9_init_61 : decode cX9_init 61 = .ok (.new 39, 3) := by decide +kernel
theorem dX9_init_64 : decode cX9_init 64 = .ok (.dup, 1) := by decide +kernel
theorem dX9_init_65 : decode cX9_init 65 = .ok (.aload_n 0, 1) := by decide +kernel
theorem dX9_init_66 : decode cX9_init 66 = .ok (.getfield 12, 3) := by decide +kernel
theorem dX9_init_69 : decode cX9_init 69 = .ok (.aload_n 0, 1) := by decide +kernel
theorem dX9_init_70 : decode cX9_init 70 = .ok (.getfield 35, 3) := by decide +kernel
theorem dX9_init_73 : decode cX9_init 73 = .ok (.sipush 3000, 3) := by decide +kernel
theorem dX9_init_76 : decode cX9_init 76 = .ok (.invokespecial 41, 3) := by decide +kernel
theorem dX9_init_79 : decode cX9_init 79 = .ok (.putfield 44, 3) := by decide +kernel
theorem dX9_init_82 : decode cX9_init 82 = .ok (.aload_n 0, 1) := by decide +kernel
theorem dX9_init_83 : decode cX9_init 83 = .ok (.new 48, 3) := by decide +kernel
theorem dX9_init_86 : decode cX9_init 86 = .ok (.dup, 1) := by decide +kernel
theorem dX9_init_87 : decode cX9_init 87 = .ok (.aload_n 0, 1) := by decide +kernel
theorem dX9_init_88 : decode cX9_init 88 = .ok (.getfield 12, 3) := by decide +kernel
theorem dX9_init_91 : decode cX9_init 91 = .ok (.new 39, 3) := by decide +kernel
theorem dX9_init_94 : decode cX9_init 94 = .ok (.dup, 1) := by decide +kernel
theorem dX9_init_95 : decode cX9_init 95 = .ok (.aload_n 0, 1) := by decide +kernel
theorem dX9_init_96 : decode cX9_init 96 = .ok (.getfield 12, 3) := by decide +kernel
theorem dX9_init_99 : decode cX9_init 99 = .ok (.aload_n 0, 1) := by decide +kernel
theorem dX9_init_100 : decode cX9_init 100 = .ok (.getfield 35, 3) := by decide +kernel
theorem dX9_init_103 : decode cX9_init 103 = .ok (.iconst 0, 1) := by decide +kernel
theorem dX9_init_104 : decode cX9_init 104 = .ok (.invokespecial 41, 3) := by decide +kernel
theorem dX9_init_107 : decode cX9_init 107 = .ok (.invokespecial 50, 3) := by decide +kernel
theorem dX9_init_110 : decode cX9_init 110 = .ok (.putfield 53, 3) := by decide +kernel
theorem dX9_init_113 : decode cX9_init 113 = .ok (.aload_n 0, 1) := by decide +kernel
theorem dX9_init_114 : decode cX9_init 114 = .ok (.new 57, 3) := by decide +kernel
theorem dX9_init_117 : decode cX9_init 117 = .ok (.dup, 1) := by decide +kernel
theorem dX9_init_118 : decode cX9_init 118 = .ok (.aload_n 0, 1) := by decide +kernel
theorem dX9_init_119 : decode cX9_init 119 = .ok (.getfield 12, 3) := by decide +kernel
theorem dX9_init_122 : decode cX9_init 122 = .ok (.invokespecial 59, 3) := by decide +kernel
theorem dX9_init_125 : decode cX9_init 125 = .ok (.putfield 62, 3) := by decide +kernel
theorem dX9_init_128 : decode cX9_init 128 = .ok (.aload_n 0, 1) := by decide +kernel
theorem dX9_init_129 : decode cX9_init 129 = .ok (.iconst 0, 1) := by decide +kernel
theorem dX9_init_130 : decode cX9_init 130 = .ok (.putfield 66, 3) := by decide +kernel
theorem dX9_init_133 : decode cX9_init 133 = .ok (.return_, 1) := by decide +kernel
theorem dX9_birth_0 : decode cX9_birth 0 = .ok (.iload_n 1, 1) := by decide +kernel
theorem dX9_birth_1 : decode cX9_birth 1 = .ok (.invokestatic 70, 3) := by decide +kernel
theorem dX9_birth_4 : decode cX9_birth 4 = .ok (.ifCond .eq 37, 3) := by decide +kernel
theorem dX9_birth_7 : decode cX9_birth 7 = .ok (.iload_n 2, 1) := by decide +kernel
theorem dX9_birth_8 : decode cX9_birth 8 = .ok (.invokestatic 74, 3) := by decide +kernel
theorem dX9_birth_11 : decode cX9_birth 11 = .ok (.ifCond .eq 30, 3) := by decide +kernel
theorem dX9_birth_14 : decode cX9_birth 14 = .ok (.lload_n 3, 1) := by decide +kernel
theorem dX9_birth_15 : decode cX9_birth 15 = .ok (.invokestatic 77, 3) := by decide +kernel
theorem dX9_birth_18 : decode cX9_birth 18 = .ok (.ifCond .eq 23, 3) := by decide +kernel
theorem dX9_birth_21 : decode cX9_birth 21 = .ok (.lload 5, 2) := by decide +kernel
theorem dX9_birth_23 : decode cX9_birth 23 = .ok (.invokestatic 77, 3) := by decide +kernel
theorem dX9_birth_26 : decode cX9_birth 26 = .ok (.ifCond .eq 15, 3) := by decide +kernel
theorem dX9_birth_29 : decode cX9_birth 29 = .ok (.lload 7, 2) := by decide +kernel
theorem dX9_birth_31 : decode cX9_birth 31 = .ok (.invokestatic 77, 3) := by decide +kernel
theorem dX9_birth_34 : decode cX9_birth 34 = .ok (.ifCond .eq 7, 3) := by decide +kernel
theorem dX9_birth_37 : decode cX9_birth 37 = .ok (.iconst 1, 1) := by decide +kernel
theorem dX9_birth_38 : decode cX9_birth 38 = .ok (.goto 4, 3) := by decide +kernel
theorem dX9_birth_41 : decode cX9_birth 41 = .ok (.iconst 0, 1) := by decide +kernel
theorem dX9_birth_42 : decode cX9_birth 42 = .ok (.istore 9, 2) := by decide +kernel
theorem dX9_birth_44 : decode cX9_birth 44 = .ok (.iload 9, 2) := by decide +kernel
theorem dX9_birth_46 : decode cX9_birth 46 = .ok (.ifCond .eq 14, 3) := by decide +kernel
theorem dX9_birth_49 : decode cX9_birth 49 = .ok (.aload_n 0, 1) := by decide +kernel
theorem dX9_birth_50 : decode cX9_birth 50 = .ok (.getfield 12, 3) := by decide +kernel
theorem dX9_birth_53 : decode cX9_birth 53 = .ok (.iconst 3, 1) := by decide +kernel
theorem dX9_birth_54 : decode cX9_birth 54 = .ok (.invokevirtual 83, 3) := by decide +kernel
theorem dX9_birth_57 : decode cX9_birth 57 = .ok (.ifCond .ne 5, 3) := by decide +kernel
theorem dX9_birth_60 : decode cX9_birth 60 = .ok (.iconst (-1), 1) := by decide +kernel
theorem dX9_birth_61 : decode cX9_birth 61 = .ok (.ireturn, 1) := by decide +kernel
theorem dX9_birth_62 : decode cX9_birth 62 = .ok (.aload_n 0, 1) := by decide +kernel
theorem dX9_birth_63 : decode cX9_birth 63 = .ok (.getfield 12, 3) := by decide +kernel
theorem dX9_birth_66 : decode cX9_birth 66 = .ok (.iload_n 1, 1) := by decide +kernel
theorem dX9_birth_67 : decode cX9_birth 67 = .ok (.iconst (-1), 1) := by decide +kernel
theorem dX9_birth_68 : decode cX9_birth 68 = .ok (.invokevirtual 86, 3) := by decide +kernel
theorem dX9_birth_71 : decode cX9_birth 71 = .ok (.aload_n 0, 1) := by decide +kernel
theorem dX9_birth_72 : decode cX9_birth 72 = .ok (.getfield 12, 3) := by decide +kernel
theorem dX9_birth_75 : decode cX9_birth 75 = .ok (.iconst 0, 1) := by decide +kernel
theorem dX9_birth_76 : decode cX9_birth 76 = .ok (.iload_n 2, 1) := by decide +kernel
theorem dX9_birth_77 : decode cX9_birth 77 = .ok (.lload_n 3, 1) := by decide +kernel
theorem dX9_birth_78 : decode cX9_birth 78 = .ok (.iconst (-1), 1) := by decide +kernel
theorem dX9_birth_79 : decode cX9_birth 79 = .ok (.invokevirtual 90, 3) := by decide +kernel
theorem dX9_birth_82 : decode cX9_birth 82 = .ok (.aload_n 0, 1) := by decide +kernel
theorem dX9_birth_83 : decode cX9_birth 83 = .ok (.getfield 12, 3) := by decide +kernel
theorem dX9_birth_86 : decode cX9_birth 86 = .ok (.iconst 1, 1) := by decide +kernel
theorem dX9_birth_87 : decode cX9_birth 87 = .ok (.iconst 1, 1) := by decide +kernel
theorem dX9_birth_88 : decode cX9_birth 88 = .ok (.lload 5, 2) := by decide +kernel
theorem dX9_birth_90 : decode cX9_birth 90 = .ok (.iconst (-1), 1) := by decide +kernel
theorem dX9_birth_91 : decode cX9_birth 91 = .ok (.invokevirtual 90, 3) := by decide +kernel
theorem dX9_birth_94 : decode cX9_birth 94 = .ok (.aload_n 0, 1) := by decide +kernel
theorem dX9_birth_95 : decode cX9_birth 95 = .ok (.getfield 12, 3) := by decide +kernel
theorem dX9_birth_98 : decode cX9_birth 98 = .ok (.iconst 2, 1) := by decide +kernel
theorem dX9_birth_99 : decode cX9_birth 99 = .ok (.iconst 2, 1) := by decide +kernel
theorem dX9_birth_100 : decode cX9_birth 100 = .ok (.lload 7, 2) := by decide +kernel
theorem dX9_birth_102 : decode cX9_birth 102 = .ok (.iconst (-1), 1) := by decide +kernel
theorem dX9_birth_103 : decode cX9_birth 103 = .ok (.invokevirtual 90, 3) := by decide +kernel
theorem dX9_birth_106 : decode cX9_birth 106 = .ok (.aload_n 0, 1) := by decide +kernel
theorem dX9_birth_107 : decode cX9_birth 107 = .ok (.invokevirtual 94, 3) := by decide +kernel
theorem dX9_birth_110 : decode cX9_birth 110 = .ok (.ireturn, 1) := by decide +kernel
theorem dX9_found_0 : decode cX9_found 0 = .ok (.aload_n 0, 1) := by decide +kernel
theorem dX9_found_1 : decode cX9_found 1 = .ok (.iconst 0, 1) := by decide +kernel
theorem dX9_found_2 : decode cX9_found 2 = .ok (.iload_n 1, 1) := by decide +kernel
theorem dX9_found_3 : decode cX9_found 3 = .ok (.iload_n 2, 1) := by decide +kernel
theorem dX9_found_4 : decode cX9_found 4 = .ok (.lload_n 3, 1) := by decide +kernel
theorem dX9_found_5 : decode cX9_found 5 = .ok (.iconst (-1), 1) := by decide +kernel
theorem dX9_found_6 : decode cX9_found 6 = .ok (.invokevirtual 98, 3) := by decide +kernel
theorem dX9_found_9 : decode cX9_found 9 = .ok (.ireturn, 1) := by decide +kernel
theorem dX9_wedding_0 : decode cX9_wedding 0 = .ok (.iload_n 1, 1) := by decide +kernel
theorem dX9_wedding_1 : decode cX9_wedding 1 = .ok (.invokestatic 70, 3) := by decide +kernel
theorem dX9_wedding_4 : decode cX9_wedding 4 = .ok (.ifCond .eq 22, 3) := by decide +kernel
theorem dX9_wedding_7 : decode cX9_wedding 7 = .ok (.lload_n 2, 1) := by decide +kernel
theorem dX9_wedding_8 : decode cX9_wedding 8 = .ok (.invokestatic 77, 3) := by decide +kernel
theorem dX9_wedding_11 : decode cX9_wedding 11 = .ok (.ifCond .eq 15, 3) := by decide +kernel
theorem dX9_wedding_14 : decode cX9_wedding 14 = .ok (.lload 4, 2) := by decide +kernel
theorem dX9_wedding_16 : decode cX9_wedding 16 = .ok (.invokestatic 77, 3) := by decide +kernel
theorem dX9_wedding_19 : decode cX9_wedding 19 = .ok (.ifCond .eq 7, 3) := by decide +kernel
theorem dX9_wedding_22 : decode cX9_wedding 22 = .ok (.iconst 1, 1) := by decide +kernel
theorem dX9_wedding_23 : decode cX9_wedding 23 = .ok (.goto 4, 3) := by decide +kernel
theorem dX9_wedding_26 : decode cX9_wedding 26 = .ok (.iconst 0, 1) := by decide +kernel
theorem dX9_wedding_27 : decode cX9_wedding 27 = .ok (.istore 6, 2) := by decide +kernel
theorem dX9_wedding_29 : decode cX9_wedding 29 = .ok (.iload 6, 2) := by decide +kernel
theorem dX9_wedding_31 : decode cX9_wedding 31 = .ok (.ifCond .eq 14, 3) := by decide +kernel
theorem dX9_wedding_34 : decode cX9_wedding 34 = .ok (.aload_n 0, 1) := by decide +kernel
theorem dX9_wedding_35 : decode cX9_wedding 35 = .ok (.getfield 12, 3) := by decide +kernel
theorem dX9_wedding_38 : decode cX9_wedding 38 = .ok (.iconst 2, 1) := by decide +kernel
theorem dX9_wedding_39 : decode cX9_wedding 39 = .ok (.invokevirtual 83, 3) := by decide +kernel
theorem dX9_wedding_42 : decode cX9_wedding 42 = .ok (.ifCond .ne 5, 3) := by decide +kernel
theorem dX9_wedding_45 : decode cX9_wedding 45 = .ok (.iconst (-1), 1) := by decide +kernel
theorem dX9_wedding_46 : decode cX9_wedding 46 = .ok (.ireturn, 1) := by decide +kernel
theorem dX9_wedding_47 : decode cX9_wedding 47 = .ok (.aload_n 0, 1) := by decide +kernel
theorem dX9_wedding_48 : decode cX9_wedding 48 = .ok (.getfield 12, 3) := by decide +kernel
theorem dX9_wedding_51 : decode cX9_wedding 51 = .ok (.iload_n 1, 1) := by decide +kernel
theorem dX9_wedding_52 : decode cX9_wedding 52 = .ok (.iconst (-1), 1) := by decide +kernel
theorem dX9_wedding_53 : decode cX9_wedding 53 = .ok (.invokevirtual 86, 3) := by decide +kernel
theorem dX9_wedding_56 : decode cX9_wedding 56 = .ok (.aload_n 0, 1) := by decide +kernel
theorem dX9_wedding_57 : decode cX9_wedding 57 = .ok (.getfield 12, 3) := by decide +kernel
theorem dX9_wedding_60 : decode cX9_wedding 60 = .ok (.iconst 3, 1) := by decide +kernel
theorem dX9_wedding_61 : decode cX9_wedding 61 = .ok (.iconst 1, 1) := by decide +kernel
theorem dX9_wedding_62 : decode cX9_wedding 62 = .ok (.lload_n 2, 1) := by decide +kernel
theorem dX9_wedding_63 : decode cX9_wedding 63 = .ok (.iconst (-1), 1) := by decide +kernel
theorem dX9_wedding_64 : decode cX9_wedding 64 = .ok (.invokevirtual 90, 3) := by decide +kernel
theorem dX9_wedding_67 : decode cX9_wedding 67 = .ok (.aload_n 0, 1) := by decide +kernel
theorem dX9_wedding_68 : decode cX9_wedding 68 = .ok (.getfield 12, 3) := by decide +kernel
theorem dX9_wedding_71 : decode cX9_wedding 71 = .ok (.iconst 4, 1) := by decide +kernel
theorem dX9_wedding_72 : decode cX9_wedding 72 = .ok (.iconst 2, 1) := by decide +kernel
theorem dX9_wedding_73 : decode cX9_wedding 73 = .ok (.lload 4, 2) := by decide +kernel
theorem dX9_wedding_75 : decode cX9_wedding 75 = .ok (.iconst (-1), 1) := by decide +kernel
theorem dX9_wedding_76 : decode cX9_wedding 76 = .ok (.invokevirtual 90, 3) := by decide +kernel
theorem dX9_wedding_79 : decode cX9_wedding 79 = .ok (.aload_n 0, 1) := by decide +kernel
theorem dX9_wedding_80 : decode cX9_wedding 80 = .ok (.invokevirtual 94, 3) := by decide +kernel
theorem dX9_wedding_83 : decode cX9_wedding 83 = .ok (.ireturn, 1) := by decide +kernel
theorem dX9_death_0 : decode cX9_death 0 = .ok (.aload_n 0, 1) := by decide +kernel
theorem dX9_death_1 : decode cX9_death 1 = .ok (.iconst 5, 1) := by decide +kernel
theorem dX9_death_2 : decode cX9_death 2 = .ok (.iload_n 1, 1) := by decide +kernel
theorem dX9_death_3 : decode cX9_death 3 = .ok (.iload_n 2, 1) := by decide +kernel
theorem dX9_death_4 : decode cX9_death 4 = .ok (.lload_n 3, 1) := by decide +kernel
theorem dX9_death_5 : decode cX9_death 5 = .ok (.iload 5, 2) := by decide +kernel
theorem dX9_death_7 : decode cX9_death 7 = .ok (.invokevirtual 98, 3) := by decide +kernel
theorem dX9_death_10 : decode cX9_death 10 = .ok (.ireturn, 1) := by decide +kernel
theorem dX9_list_0 : decode cX9_list 0 = .ok (.aload_n 0, 1) := by decide +kernel
theorem dX9_list_1 : decode cX9_list 1 = .ok (.bipush 6, 2) := by decide +kernel
theorem dX9_list_3 : decode cX9_list 3 = .ok (.iload_n 1, 1) := by decide +kernel
theorem dX9_list_4 : decode cX9_list 4 = .ok (.iload_n 2, 1) := by decide +kernel
theorem dX9_list_5 : decode cX9_list 5 = .ok (.lload_n 3, 1) := by decide +kernel
theorem dX9_list_6 : decode cX9_list 6 = .ok (.iload 5, 2) := by decide +kernel
theorem dX9_list_8 : decode cX9_list 8 = .ok (.invokevirtual 98, 3) := by decide +kernel
theorem dX9_list_11 : decode cX9_list 11 = .ok (.ireturn, 1) := by decide +kernel
theorem dX9_witness_0 : decode cX9_witness 0 = .ok (.iload 5, 2) := by decide +kernel
theorem dX9_witness_2 : decode cX9_witness 2 = .ok (.iconst (-1), 1) := by decide +kernel
theorem dX9_witness_3 : decode cX9_witness 3 = .ok (.if_icmp .ne 14, 3) := by decide +kernel
theorem dX9_witness_6 : decode cX9_witness 6 = .ok (.aload_n 0, 1) := by decide +kernel
theorem dX9_witness_7 : decode cX9_witness 7 = .ok (.bipush 7, 2) := by decide +kernel
theorem dX9_witness_9 : decode cX9_witness 9 = .ok (.iload_n 1, 1) := by decide +kernel
theorem dX9_witness_10 : decode cX9_witness 10 = .ok (.iload_n 2, 1) := by decide +kernel
theorem dX9_witness_11 : decode cX9_witness 11 = .ok (.lload_n 3, 1) := by decide +kernel
theorem dX9_witness_12 : decode cX9_witness 12 = .ok (.iconst (-1), 1) := by decide +kernel
theorem dX9_witness_13 : decode cX9_witness 13 = .ok (.invokevirtual 98, 3) := by decide +kernel
theorem dX9_witness_16 : decode cX9_witness 16 = .ok (.ireturn, 1) := by decide +kernel
theorem dX9_witness_17 : decode cX9_witness 17 = .ok (.iload_n 1, 1) := by decide +kernel
theorem dX9_witness_18 : decode cX9_witness 18 = .ok (.invokestatic 70, 3) := by decide +kernel
theorem dX9_witness_21 : decode cX9_witness 21 = .ok (.ifCond .eq 37, 3) := by decide +kernel
theorem dX9_witness_24 : decode cX9_witness 24 = .ok (.iload_n 2, 1) := by decide +kernel
theorem dX9_witness_25 : decode cX9_witness 25 = .ok (.invokestatic 74, 3) := by decide +kernel
theorem dX9_witness_28 : decode cX9_witness 28 = .ok (.ifCond .eq 30, 3) := by decide +kernel
theorem dX9_witness_31 : decode cX9_witness 31 = .ok (.iload 5, 2) := by decide +kernel
theorem dX9_witness_33 : decode cX9_witness 33 = .ok (.invokestatic 74, 3) := by decide +kernel
theorem dX9_witness_36 : decode cX9_witness 36 = .ok (.ifCond .eq 22, 3) := by decide +kernel
theorem dX9_witness_39 : decode cX9_witness 39 = .ok (.lload_n 3, 1) := by decide +kernel
theorem dX9_witness_40 : decode cX9_witness 40 = .ok (.invokestatic 77, 3) := by decide +kernel
theorem dX9_witness_43 : decode cX9_witness 43 = .ok (.ifCond .eq 15, 3) := by decide +kernel
theorem dX9_witness_46 : decode cX9_witness 46 = .ok (.lload 6, 2) := by decide +kernel
theorem dX9_witness_48 : decode cX9_witness 48 = .ok (.invokestatic 77, 3) := by decide +kernel
theorem dX9_witness_51 : decode cX9_witness 51 = .ok (.ifCond .eq 7, 3) := by decide +kernel
theorem dX9_witness_54 : decode cX9_witness 54 = .ok (.iconst 1, 1) := by decide +kernel
theorem dX9_witness_55 : decode cX9_witness 55 = .ok (.goto 4, 3) := by decide +kernel
theorem dX9_witness_58 : decode cX9_witness 58 = .ok (.iconst 0, 1) := by decide +kernel
theorem dX9_witness_59 : decode cX9_witness 59 = .ok (.istore 8, 2) := by decide +kernel
theorem dX9_witness_61 : decode cX9_witness 61 = .ok (.iload 8, 2) := by decide +kernel
theorem dX9_witness_63 : decode cX9_witness 63 = .ok (.ifCond .eq 14, 3) := by decide +kernel
theorem dX9_witness_66 : decode cX9_witness 66 = .ok (.aload_n 0, 1) := by decide +kernel
theorem dX9_witness_67 : decode cX9_witness 67 = .ok (.getfield 12, 3) := by decide +kernel
theorem dX9_witness_70 : decode cX9_witness 70 = .ok (.iconst 2, 1) := by decide +kernel
theorem dX9_witness_71 : decode cX9_witness 71 = .ok (.invokevirtual 83, 3) := by decide +kernel
theorem dX9_witness_74 : decode cX9_witness 74 = .ok (.ifCond .ne 5, 3) := by decide +kernel
theorem dX9_witness_77 : decode cX9_witness 77 = .ok (.iconst (-1), 1) := by decide +kernel
theorem dX9_witness_78 : decode cX9_witness 78 = .ok (.ireturn, 1) := by decide +kernel
theorem dX9_witness_79 : decode cX9_witness 79 = .ok (.aload_n 0, 1) := by decide +kernel
theorem dX9_witness_80 : decode cX9_witness 80 = .ok (.getfield 12, 3) := by decide +kernel
theorem dX9_witness_83 : decode cX9_witness 83 = .ok (.iload_n 1, 1) := by decide +kernel
theorem dX9_witness_84 : decode cX9_witness 84 = .ok (.iconst (-1), 1) := by decide +kernel
theorem dX9_witness_85 : decode cX9_witness 85 = .ok (.invokevirtual 86, 3) := by decide +kernel
theorem dX9_witness_88 : decode cX9_witness 88 = .ok (.aload_n 0, 1) := by decide +kernel
theorem dX9_witness_89 : decode cX9_witness 89 = .ok (.getfield 12, 3) := by decide +kernel
theorem dX9_witness_92 : decode cX9_witness 92 = .ok (.bipush 7, 2) := by decide +kernel
theorem dX9_witness_94 : decode cX9_witness 94 = .ok (.iload_n 2, 1) := by decide +kernel
theorem dX9_witness_95 : decode cX9_witness 95 = .ok (.lload_n 3, 1) := by decide +kernel
theorem dX9_witness_96 : decode cX9_witness 96 = .ok (.iconst (-1), 1) := by decide +kernel
theorem dX9_witness_97 : decode cX9_witness 97 = .ok (.invokevirtual 90, 3) := by decide +kernel
theorem dX9_witness_100 : decode cX9_witness 100 = .ok (.aload_n 0, 1) := by decide +kernel
theorem dX9_witness_101 : decode cX9_witness 101 = .ok (.getfield 12, 3) := by decide +kernel
theorem dX9_witness_104 : decode cX9_witness 104 = .ok (.bipush 7, 2) := by decide +kernel
theorem dX9_witness_106 : decode cX9_witness 106 = .ok (.iload 5, 2) := by decide +kernel
theorem dX9_witness_108 : decode cX9_witness 108 = .ok (.lload 6, 2) := by decide +kernel
theorem dX9_witness_110 : decode cX9_witness 110 = .ok (.iconst (-1), 1) := by decide +kernel
theorem dX9_witness_111 : decode cX9_witness 111 = .ok (.invokevirtual 90, 3) := by decide +kernel
theorem dX9_witness_114 : decode cX9_witness 114 = .ok (.aload_n 0, 1) := by decide +kernel
theorem dX9_witness_115 : decode cX9_witness 115 = .ok (.invokevirtual 94, 3) := by decide +kernel
theorem dX9_witness_118 : decode cX9_witness 118 = .ok (.ireturn, 1) := by decide +kernel
theorem dX9_copy_0 : decode cX9_copy 0 = .ok (.aload_n 0, 1) := by decide +kernel
theorem dX9_copy_1 : decode cX9_copy 1 = .ok (.getfield 12, 3) := by decide +kernel
theorem dX9_copy_4 : decode cX9_copy 4 = .ok (.iload_n 1, 1) := by decide +kernel
theorem dX9_copy_5 : decode cX9_copy 5 = .ok (.invokevirtual 102, 3) := by decide +kernel
theorem dX9_copy_8 : decode cX9_copy 8 = .ok (.ifCond .ne 5, 3) := by decide +kernel
theorem dX9_copy_11 : decode cX9_copy 11 = .ok (.iconst (-1), 1) := by decide +kernel
theorem dX9_copy_12 : decode cX9_copy 12 = .ok (.ireturn, 1) := by decide +kernel
theorem dX9_copy_13 : decode cX9_copy 13 = .ok (.aload_n 0, 1) := by decide +kernel
theorem dX9_copy_14 : decode cX9_copy 14 = .ok (.getfield 12, 3) := by decide +kernel
theorem dX9_copy_17 : decode cX9_copy 17 = .ok (.iload_n 1, 1) := by decide +kernel
theorem dX9_copy_18 : decode cX9_copy 18 = .ok (.invokevirtual 105, 3) := by decide +kernel
theorem dX9_copy_21 : decode cX9_copy 21 = .ok (.istore 8, 2) := by decide +kernel
theorem dX9_copy_23 : decode cX9_copy 23 = .ok (.lload_n 2, 1) := by decide +kernel
theorem dX9_copy_24 : decode cX9_copy 24 = .ok (.invokestatic 77, 3) := by decide +kernel
theorem dX9_copy_27 : decode cX9_copy 27 = .ok (.ifCond .eq 35, 3) := by decide +kernel
theorem dX9_copy_30 : decode cX9_copy 30 = .ok (.iload 8, 2) := by decide +kernel
theorem dX9_copy_32 : decode cX9_copy 32 = .ok (.iconst 2, 1) := by decide +kernel
theorem dX9_copy_33 : decode cX9_copy 33 = .ok (.if_icmp .lt 11, 3) := by decide +kernel
theorem dX9_copy_36 : decode cX9_copy 36 = .ok (.lload 4, 2) := by decide +kernel
theorem dX9_copy_38 : decode cX9_copy 38 = .ok (.invokestatic 77, 3) := by decide +kernel
theorem dX9_copy_41 : decode cX9_copy 41 = .ok (.ifCond .eq 21, 3) := by decide +kernel
theorem dX9_copy_44 : decode cX9_copy 44 = .ok (.iload 8, 2) := by decide +kernel
theorem dX9_copy_46 : decode cX9_copy 46 = .ok (.iconst 3, 1) := by decide +kernel
theorem dX9_copy_47 : decode cX9_copy 47 = .ok (.if_icmp .lt 11, 3) := by decide +kernel
theorem dX9_copy_50 : decode cX9_copy 50 = .ok (.lload 6, 2) := by decide +kernel
theorem dX9_copy_52 : decode cX9_copy 52 = .ok (.invokestatic 77, 3) := by decide +kernel
theorem dX9_copy_55 : decode cX9_copy 55 = .ok (.ifCond .eq 7, 3) := by decide +kernel
theorem dX9_copy_58 : decode cX9_copy 58 = .ok (.iconst 1, 1) := by decide +kernel
theorem dX9_copy_59 : decode cX9_copy 59 = .ok (.goto 4, 3) := by decide +kernel
theorem dX9_copy_62 : decode cX9_copy 62 = .ok (.iconst 0, 1) := by decide +kernel
theorem dX9_copy_63 : decode cX9_copy 63 = .ok (.istore 9, 2) := by decide +kernel
theorem dX9_copy_65 : decode cX9_copy 65 = .ok (.iload 9, 2) := by decide +kernel
theorem dX9_copy_67 : decode cX9_copy 67 = .ok (.ifCond .eq 15, 3) := by decide +kernel
theorem dX9_copy_70 : decode cX9_copy 70 = .ok (.aload_n 0, 1) := by decide +kernel
theorem dX9_copy_71 : decode cX9_copy 71 = .ok (.getfield 12, 3) := by decide +kernel
theorem dX9_copy_74 : decode cX9_copy 74 = .ok (.iload 8, 2) := by decide +kernel
theorem dX9_copy_76 : decode cX9_copy 76 = .ok (.invokevirtual 83, 3) := by decide +kernel
theorem dX9_copy_79 : decode cX9_copy 79 = .ok (.ifCond .ne 5, 3) := by decide +kernel
theorem dX9_copy_82 : decode cX9_copy 82 = .ok (.iconst (-1), 1) := by decide +kernel
theorem dX9_copy_83 : decode cX9_copy 83 = .ok (.ireturn, 1) := by decide +kernel
theorem dX9_copy_84 : decode cX9_copy 84 = .ok (.aload_n 0, 1) := by decide +kernel
theorem dX9_copy_85 : decode cX9_copy 85 = .ok (.getfield 12, 3) := by decide +kernel
theorem dX9_copy_88 : decode cX9_copy 88 = .ok (.iload_n 1, 1) := by decide +kernel
theorem dX9_copy_89 : decode cX9_copy 89 = .ok (.invokevirtual 109, 3) := by decide +kernel
theorem dX9_copy_92 : decode cX9_copy 92 = .ok (.iconst 0, 1) := by decide +kernel
theorem dX9_copy_93 : decode cX9_copy 93 = .ok (.istore 10, 2) := by decide +kernel
theorem dX9_copy_95 : decode cX9_copy 95 = .ok (.iload 10, 2) := by decide +kernel
theorem dX9_copy_97 : decode cX9_copy 97 = .ok (.iload 8, 2) := by decide +kernel
theorem dX9_copy_99 : decode cX9_copy 99 = .ok (.if_icmp .ge 49, 3) := by decide +kernel
theorem dX9_copy_102 : decode cX9_copy 102 = .ok (.aload_n 0, 1) := by decide +kernel
theorem dX9_copy_103 : decode cX9_copy 103 = .ok (.getfield 12, 3) := by decide +kernel
theorem dX9_copy_106 : decode cX9_copy 106 = .ok (.aload_n 0, 1) := by decide +kernel
theorem dX9_copy_107 : decode cX9_copy 107 = .ok (.getfield 12, 3) := by decide +kernel
theorem dX9_copy_110 : decode cX9_copy 110 = .ok (.iload_n 1, 1) := by decide +kernel
theorem dX9_copy_111 : decode cX9_copy 111 = .ok (.invokevirtual 113, 3) := by decide +kernel
theorem dX9_copy_114 : decode cX9_copy 114 = .ok (.iload 10, 2) := by decide +kernel
theorem dX9_copy_116 : decode cX9_copy 116 = .ok (.iadd, 1) := by decide +kernel
theorem dX9_copy_117 : decode cX9_copy 117 = .ok (.iload 10, 2) := by decide +kernel
theorem dX9_copy_119 : decode cX9_copy 119 = .ok (.ifCond .ne 7, 3) := by decide +kernel
theorem dX9_copy_122 : decode cX9_copy 122 = .ok (.lload_n 2, 1) := by decide +kernel
theorem dX9_copy_123 : decode cX9_copy 123 = .ok (.goto 16, 3) := by decide +kernel
theorem dX9_copy_126 : decode cX9_copy 126 = .ok (.iload 10, 2) := by decide +kernel
theorem dX9_copy_128 : decode cX9_copy 128 = .ok (.iconst 1, 1) := by decide +kernel
theorem dX9_copy_129 : decode cX9_copy 129 = .ok (.if_icmp .ne 8, 3) := by decide +kernel
theorem dX9_copy_132 : decode cX9_copy 132 = .ok (.lload 4, 2) := by decide +kernel
theorem dX9_copy_134 : decode cX9_copy 134 = .ok (.goto 5, 3) := by decide +kernel
theorem dX9_copy_137 : decode cX9_copy 137 = .ok (.lload 6, 2) := by decide +kernel
theorem dX9_copy_139 : decode cX9_copy 139 = .ok (.invokevirtual 116, 3) := by decide +kernel
theorem dX9_copy_142 : decode cX9_copy 142 = .ok (.iinc 10 1, 3) := by decide +kernel
theorem dX9_copy_145 : decode cX9_copy 145 = .ok (.goto (-50), 3) := by decide +kernel
theorem dX9_copy_148 : decode cX9_copy 148 = .ok (.aload_n 0, 1) := by decide +kernel
theorem dX9_copy_149 : decode cX9_copy 149 = .ok (.invokevirtual 94, 3) := by decide +kernel
theorem dX9_copy_152 : decode cX9_copy 152 = .ok (.ireturn, 1) := by decide +kernel
theorem dX9_drop_0 : decode cX9_drop 0 = .ok (.aload_n 0, 1) := by decide +kernel
theorem dX9_drop_1 : decode cX9_drop 1 = .ok (.getfield 12, 3) := by decide +kernel
theorem dX9_drop_4 : decode cX9_drop 4 = .ok (.getfield 120, 3) := by decide +kernel
theorem dX9_drop_7 : decode cX9_drop 7 = .ok (.ifCond .ne 5, 3) := by decide +kernel
theorem dX9_drop_10 : decode cX9_drop 10 = .ok (.iconst 0, 1) := by decide +kernel
theorem dX9_drop_11 : decode cX9_drop 11 = .ok (.ireturn, 1) := by decide +kernel
theorem dX9_drop_12 : decode cX9_drop 12 = .ok (.aload_n 0, 1) := by decide +kernel
theorem dX9_drop_13 : decode cX9_drop 13 = .ok (.getfield 12, 3) := by decide +kernel
theorem dX9_drop_16 : decode cX9_drop 16 = .ok (.invokevirtual 124, 3) := by decide +kernel
theorem dX9_drop_19 : decode cX9_drop 19 = .ok (.aload_n 0, 1) := by decide +kernel
theorem dX9_drop_20 : decode cX9_drop 20 = .ok (.iconst 0, 1) := by decide +kernel
theorem dX9_drop_21 : decode cX9_drop 21 = .ok (.putfield 66, 3) := by decide +kernel
theorem dX9_drop_24 : decode cX9_drop 24 = .ok (.iconst 1, 1) := by decide +kernel
theorem dX9_drop_25 : decode cX9_drop 25 = .ok (.ireturn, 1) := by decide +kernel
theorem dX9_laws_0 : decode cX9_laws 0 = .ok (.aload_n 0, 1) := by decide +kernel
theorem dX9_laws_1 : decode cX9_laws 1 = .ok (.getfield 19, 3) := by decide +kernel
theorem dX9_laws_4 : decode cX9_laws 4 = .ok (.iload_n 1, 1) := by decide +kernel
theorem dX9_laws_5 : decode cX9_laws 5 = .ok (.iload_n 2, 1) := by decide +kernel
theorem dX9_laws_6 : decode cX9_laws 6 = .ok (.iload_n 3, 1) := by decide +kernel
theorem dX9_laws_7 : decode cX9_laws 7 = .ok (.iload 4, 2) := by decide +kernel
theorem dX9_laws_9 : decode cX9_laws 9 = .ok (.iload 5, 2) := by decide +kernel
theorem dX9_laws_11 : decode cX9_laws 11 = .ok (.invokevirtual 127, 3) := by decide +kernel
theorem dX9_laws_14 : decode cX9_laws 14 = .ok (.ifCond .ne 5, 3) := by decide +kernel
theorem dX9_laws_17 : decode cX9_laws 17 = .ok (.iconst 0, 1) := by decide +kernel
theorem dX9_laws_18 : decode cX9_laws 18 = .ok (.ireturn, 1) := by decide +kernel
theorem dX9_laws_19 : decode cX9_laws 19 = .ok (.aload_n 0, 1) := by decide +kernel
theorem dX9_laws_20 : decode cX9_laws 20 = .ok (.iconst 0, 1) := by decide +kernel
theorem dX9_laws_21 : decode cX9_laws 21 = .ok (.putfield 66, 3) := by decide +kernel
theorem dX9_laws_24 : decode cX9_laws 24 = .ok (.iconst 1, 1) := by decide +kernel
theorem dX9_laws_25 : decode cX9_laws 25 = .ok (.ireturn, 1) := by decide +kernel
theorem dX9_sound_0 : decode cX9_sound 0 = .ok (.iload_n 1, 1) := by decide +kernel
theorem dX9_sound_1 : decode cX9_sound 1 = .ok (.invokestatic 131, 3) := by decide +kernel
theorem dX9_sound_4 : decode cX9_sound 4 = .ok (.ifCond .eq 19, 3) := by decide +kernel
theorem dX9_sound_7 : decode cX9_sound 7 = .ok (.iload_n 2, 1) := by decide +kernel
theorem dX9_sound_8 : decode cX9_sound 8 = .ok (.invokestatic 131, 3) := by decide +kernel
theorem dX9_sound_11 : decode cX9_sound 11 = .ok (.ifCond .eq 12, 3) := by decide +kernel
theorem dX9_sound_14 : decode cX9_sound 14 = .ok (.iload_n 1, 1) := by decide +kernel
theorem dX9_sound_15 : decode cX9_sound 15 = .ok (.iload_n 2, 1) := by decide +kernel
theorem dX9_sound_16 : decode cX9_sound 16 = .ok (.iload_n 3, 1) := by decide +kernel
theorem dX9_sound_17 : decode cX9_sound 17 = .ok (.invokestatic 134, 3) := by decide +kernel
theorem dX9_sound_20 : decode cX9_sound 20 = .ok (.ifCond .ne 5, 3) := by decide +kernel
theorem dX9_sound_23 : decode cX9_sound 23 = .ok (.iconst 0, 1) := by decide +kernel
theorem dX9_sound_24 : decode cX9_sound 24 = .ok (.ireturn, 1) := by decide +kernel
theorem dX9_sound_25 : decode cX9_sound 25 = .ok (.aload_n 0, 1) := by decide +kernel
theorem dX9_sound_26 : decode cX9_sound 26 = .ok (.getfield 26, 3) := by decide +kernel
theorem dX9_sound_29 : decode cX9_sound 29 = .ok (.iload_n 1, 1) := by decide +kernel
theorem dX9_sound_30 : decode cX9_sound 30 = .ok (.iload_n 2, 1) := by decide +kernel
theorem dX9_sound_31 : decode cX9_sound 31 = .ok (.iload_n 3, 1) := by decide +kernel
theorem dX9_sound_32 : decode cX9_sound 32 = .ok (.invokevirtual 138, 3) := by decide +kernel
theorem dX9_sound_35 : decode cX9_sound 35 = .ok (.aload_n 0, 1) := by decide +kernel
theorem dX9_sound_36 : decode cX9_sound 36 = .ok (.iconst 0, 1) := by decide +kernel
theorem dX9_sound_37 : decode cX9_sound 37 = .ok (.putfield 66, 3) := by decide +kernel
theorem dX9_sound_40 : decode cX9_sound 40 = .ok (.iconst 1, 1) := by decide +kernel
theorem dX9_sound_41 : decode cX9_sound 41 = .ok (.ireturn, 1) := by decide +kernel
theorem dX9_budget_0 : decode cX9_budget 0 = .ok (.aload_n 0, 1) := by decide +kernel
theorem dX9_budget_1 : decode cX9_budget 1 = .ok (.getfield 19, 3) := by decide +kernel
theorem dX9_budget_4 : decode cX9_budget 4 = .ok (.iload_n 1, 1) := by decide +kernel
theorem dX9_budget_5 : decode cX9_budget 5 = .ok (.iload_n 2, 1) := by decide +kernel
theorem dX9_budget_6 : decode cX9_budget 6 = .ok (.invokevirtual 142, 3) := by decide +kernel
theorem dX9_budget_9 : decode cX9_budget 9 = .ok (.ifCond .ne 5, 3) := by decide +kernel
theorem dX9_budget_12 : decode cX9_budget 12 = .ok (.iconst 0, 1) := by decide +kernel
theorem dX9_budget_13 : decode cX9_budget 13 = .ok (.ireturn, 1) := by decide +kernel
theorem dX9_budget_14 : decode cX9_budget 14 = .ok (.aload_n 0, 1) := by decide +kernel
theorem dX9_budget_15 : decode cX9_budget 15 = .ok (.iconst 0, 1) := by decide +kernel
theorem dX9_budget_16 : decode cX9_budget 16 = .ok (.putfield 66, 3) := by decide +kernel
theorem dX9_budget_19 : decode cX9_budget 19 = .ok (.iconst 1, 1) := by decide +kernel
theorem dX9_budget_20 : decode cX9_budget 20 = .ok (.ireturn, 1) := by decide +kernel
theorem dX9_far_0 : decode cX9_far 0 = .ok (.lload_n 1, 1) := by decide +kernel
theorem dX9_far_1 : decode cX9_far 1 = .ok (.invokestatic 77, 3) := by decide +kernel
theorem dX9_far_4 : decode cX9_far 4 = .ok (.ifCond .eq 22, 3) := by decide +kernel
theorem dX9_far_7 : decode cX9_far 7 = .ok (.lload_n 3, 1) := by decide +kernel
theorem dX9_far_8 : decode cX9_far 8 = .ok (.invokestatic 77, 3) := by decide +kernel
theorem dX9_far_11 : decode cX9_far 11 = .ok (.ifCond .eq 15, 3) := by decide +kernel
theorem dX9_far_14 : decode cX9_far 14 = .ok (.aload_n 0, 1) := by decide +kernel
theorem dX9_far_15 : decode cX9_far 15 = .ok (.getfield 26, 3) := by decide +kernel
theorem dX9_far_18 : decode cX9_far 18 = .ok (.lload_n 1, 1) := by decide +kernel
theorem dX9_far_19 : decode cX9_far 19 = .ok (.lload_n 3, 1) := by decide +kernel
theorem dX9_far_20 : decode cX9_far 20 = .ok (.invokevirtual 146, 3) := by decide +kernel
theorem dX9_far_23 : decode cX9_far 23 = .ok (.goto 4, 3) := by decide +kernel
theorem dX9_far_26 : decode cX9_far 26 = .ok (.iconst (-1), 1) := by decide +kernel
theorem dX9_far_27 : decode cX9_far 27 = .ok (.ireturn, 1) := by decide +kernel
theorem dX9_role_0 : decode cX9_role 0 = .ok (.aload_n 0, 1) := by decide +kernel
theorem dX9_role_1 : decode cX9_role 1 = .ok (.getfield 12, 3) := by decide +kernel
theorem dX9_role_4 : decode cX9_role 4 = .ok (.iload_n 1, 1) := by decide +kernel
theorem dX9_role_5 : decode cX9_role 5 = .ok (.invokevirtual 150, 3) := by decide +kernel
theorem dX9_role_8 : decode cX9_role 8 = .ok (.ifCond .ne 5, 3) := by decide +kernel
theorem dX9_role_11 : decode cX9_role 11 = .ok (.iconst (-1), 1) := by decide +kernel
theorem dX9_role_12 : decode cX9_role 12 = .ok (.ireturn, 1) := by decide +kernel
theorem dX9_role_13 : decode cX9_role 13 = .ok (.iload_n 2, 1) := by decide +kernel
theorem dX9_role_14 : decode cX9_role 14 = .ok (.tableswitch 98 0 5 #[38, 48, 58, 68, 78, 88], 38) := by decide +kernel
theorem dX9_role_52 : decode cX9_role 52 = .ok (.aload_n 0, 1) := by decide +kernel
theorem dX9_role_53 : decode cX9_role 53 = .ok (.getfield 12, 3) := by decide +kernel
theorem dX9_role_56 : decode cX9_role 56 = .ok (.getfield 153, 3) := by decide +kernel
theorem dX9_role_59 : decode cX9_role 59 = .ok (.iload_n 1, 1) := by decide +kernel
theorem dX9_role_60 : decode cX9_role 60 = .ok (.iaload, 1) := by decide +kernel
theorem dX9_role_61 : decode cX9_role 61 = .ok (.ireturn, 1) := by decide +kernel
theorem dX9_role_62 : decode cX9_role 62 = .ok (.aload_n 0, 1) := by decide +kernel
theorem dX9_role_63 : decode cX9_role 63 = .ok (.getfield 12, 3) := by decide +kernel
theorem dX9_role_66 : decode cX9_role 66 = .ok (.getfield 157, 3) := by decide +kernel
theorem dX9_role_69 : decode cX9_role 69 = .ok (.iload_n 1, 1) := by decide +kernel
theorem dX9_role_70 : decode cX9_role 70 = .ok (.iaload, 1) := by decide +kernel
theorem dX9_role_71 : decode cX9_role 71 = .ok (.ireturn, 1) := by decide +kernel
theorem dX9_role_72 : decode cX9_role 72 = .ok (.aload_n 0, 1) := by decide +kernel
theorem dX9_role_73 : decode cX9_role 73 = .ok (.getfield 12, 3) := by decide +kernel
theorem dX9_role_76 : decode cX9_role 76 = .ok (.getfield 160, 3) := by decide +kernel
theorem dX9_role_79 : decode cX9_role 79 = .ok (.iload_n 1, 1) := by decide +kernel
theorem dX9_role_80 : decode cX9_role 80 = .ok (.iaload, 1) := by decide +kernel
theorem dX9_role_81 : decode cX9_role 81 = .ok (.ireturn, 1) := by decide +kernel
theorem dX9_role_82 : decode cX9_role 82 = .ok (.aload_n 0, 1) := by decide +kernel
theorem dX9_role_83 : decode cX9_role 83 = .ok (.getfield 12, 3) := by decide +kernel
theorem dX9_role_86 : decode cX9_role 86 = .ok (.getfield 163, 3) := by decide +kernel
theorem dX9_role_89 : decode cX9_role 89 = .ok (.iload_n 1, 1) := by decide +kernel
theorem dX9_role_90 : decode cX9_role 90 = .ok (.iaload, 1) := by decide +kernel
theorem dX9_role_91 : decode cX9_role 91 = .ok (.ireturn, 1) := by decide +kernel
theorem dX9_role_92 : decode cX9_role 92 = .ok (.aload_n 0, 1) := by decide +kernel
theorem dX9_role_93 : decode cX9_role 93 = .ok (.getfield 12, 3) := by decide +kernel
theorem dX9_role_96 : decode cX9_role 96 = .ok (.getfield 166, 3) := by decide +kernel
theorem dX9_role_99 : decode cX9_role 99 = .ok (.iload_n 1, 1) := by decide +kernel
theorem dX9_role_100 : decode cX9_role 100 = .ok (.iaload, 1) := by decide +kernel
theorem dX9_role_101 : decode cX9_role 101 = .ok (.ireturn, 1) := by decide +kernel
theorem dX9_role_102 : decode cX9_role 102 = .ok (.aload_n 0, 1) := by decide +kernel
theorem dX9_role_103 : decode cX9_role 103 = .ok (.getfield 12, 3) := by decide +kernel
theorem dX9_role_106 : decode cX9_role 106 = .ok (.getfield 169, 3) := by decide +kernel
theorem dX9_role_109 : decode cX9_role 109 = .ok (.iload_n 1, 1) := by decide +kernel
theorem dX9_role_110 : decode cX9_role 110 = .ok (.iaload, 1) := by decide +kernel
theorem dX9_role_111 : decode cX9_role 111 = .ok (.ireturn, 1) := by decide +kernel
theorem dX9_role_112 : decode cX9_role 112 = .ok (.iconst (-1), 1) := by decide +kernel
theorem dX9_role_113 : decode cX9_role 113 = .ok (.ireturn, 1) := by decide +kernel
theorem dX9_ways_0 : decode cX9_ways 0 = .ok (.aload_n 0, 1) := by decide +kernel
theorem dX9_ways_1 : decode cX9_ways 1 = .ok (.invokevirtual 172, 3) := by decide +kernel
theorem dX9_ways_4 : decode cX9_ways 4 = .ok (.aload_n 0, 1) := by decide +kernel
theorem dX9_ways_5 : decode cX9_ways 5 = .ok (.getfield 44, 3) := by decide +kernel
theorem dX9_ways_8 : decode cX9_ways 8 = .ok (.getfield 175, 3) := by decide +kernel
theorem dX9_ways_11 : decode cX9_ways 11 = .ok (.ifCond .eq 8, 3) := by decide +kernel
theorem dX9_ways_14 : decode cX9_ways 14 = .ok (.bipush (-2), 2) := by decide +kernel
theorem dX9_ways_16 : decode cX9_ways 16 = .ok (.goto 10, 3) := by decide +kernel
theorem dX9_ways_19 : decode cX9_ways 19 = .ok (.aload_n 0, 1) := by decide +kernel
theorem dX9_ways_20 : decode cX9_ways 20 = .ok (.getfield 44, 3) := by decide +kernel
theorem dX9_ways_23 : decode cX9_ways 23 = .ok (.getfield 178, 3) := by decide +kernel
theorem dX9_ways_26 : decode cX9_ways 26 = .ok (.ireturn, 1) := by decide +kernel
theorem dX9_person_0 : decode cX9_person 0 = .ok (.aload_n 0, 1) := by decide +kernel
theorem dX9_person_1 : decode cX9_person 1 = .ok (.getfield 12, 3) := by decide +kernel
theorem dX9_person_4 : decode cX9_person 4 = .ok (.iload_n 2, 1) := by decide +kernel
theorem dX9_person_5 : decode cX9_person 5 = .ok (.invokevirtual 150, 3) := by decide +kernel
theorem dX9_person_8 : decode cX9_person 8 = .ok (.ifCond .eq 11, 3) := by decide +kernel
theorem dX9_person_11 : decode cX9_person 11 = .ok (.aload_n 0, 1) := by decide +kernel
theorem dX9_person_12 : decode cX9_person 12 = .ok (.iload_n 1, 1) := by decide +kernel
theorem dX9_person_13 : decode cX9_person 13 = .ok (.invokevirtual 181, 3) := by decide +kernel
theorem dX9_person_16 : decode cX9_person 16 = .ok (.ifCond .ne 5, 3) := by decide +kernel
theorem dX9_person_19 : decode cX9_person 19 = .ok (.iconst (-1), 1) := by decide +kernel
theorem dX9_person_20 : decode cX9_person 20 = .ok (.ireturn, 1) := by decide +kernel
theorem dX9_person_21 : decode cX9_person 21 = .ok (.aload_n 0, 1) := by decide +kernel
theorem dX9_person_22 : decode cX9_person 22 = .ok (.getfield 44, 3) := by decide +kernel
theorem dX9_person_25 : decode cX9_person 25 = .ok (.iload_n 1, 1) := by decide +kernel
theorem dX9_person_26 : decode cX9_person 26 = .ok (.invokevirtual 184, 3) := by decide +kernel
theorem dX9_person_29 : decode cX9_person 29 = .ok (.iload_n 2, 1) := by decide +kernel
theorem dX9_person_30 : decode cX9_person 30 = .ok (.invokestatic 188, 3) := by decide +kernel
theorem dX9_person_33 : decode cX9_person 33 = .ok (.ireturn, 1) := by decide +kernel
theorem dX9_cost_0 : decode cX9_cost 0 = .ok (.aload_n 0, 1) := by decide +kernel
theorem dX9_cost_1 : decode cX9_cost 1 = .ok (.iload_n 1, 1) := by decide +kernel
theorem dX9_cost_2 : decode cX9_cost 2 = .ok (.invokevirtual 181, 3) := by decide +kernel
theorem dX9_cost_5 : decode cX9_cost 5 = .ok (.ifCond .eq 14, 3) := by decide +kernel
theorem dX9_cost_8 : decode cX9_cost 8 = .ok (.aload_n 0, 1) := by decide +kernel
theorem dX9_cost_9 : decode cX9_cost 9 = .ok (.getfield 44, 3) := by decide +kernel
theorem dX9_cost_12 : decode cX9_cost 12 = .ok (.iload_n 1, 1) := by decide +kernel
theorem dX9_cost_13 : decode cX9_cost 13 = .ok (.invokevirtual 192, 3) := by decide +kernel
theorem dX9_cost_16 : decode cX9_cost 16 = .ok (.goto 4, 3) := by decide +kernel
theorem dX9_cost_19 : decode cX9_cost 19 = .ok (.iconst (-1), 1) := by decide +kernel
theorem dX9_cost_20 : decode cX9_cost 20 = .ok (.ireturn, 1) := by decide +kernel
theorem dX9_link_0 : decode cX9_link 0 = .ok (.aload_n 0, 1) := by decide +kernel
theorem dX9_link_1 : decode cX9_link 1 = .ok (.iload_n 1, 1) := by decide +kernel
theorem dX9_link_2 : decode cX9_link 2 = .ok (.iload_n 2, 1) := by decide +kernel
theorem dX9_link_3 : decode cX9_link 3 = .ok (.invokevirtual 195, 3) := by decide +kernel
theorem dX9_link_6 : decode cX9_link 6 = .ok (.ifCond .eq 10, 3) := by decide +kernel
theorem dX9_link_9 : decode cX9_link 9 = .ok (.aload_n 0, 1) := by decide +kernel
theorem dX9_link_10 : decode cX9_link 10 = .ok (.invokevirtual 198, 3) := by decide +kernel
theorem dX9_link_13 : decode cX9_link 13 = .ok (.ifCond .ne 5, 3) := by decide +kernel
theorem dX9_link_16 : decode cX9_link 16 = .ok (.iconst (-1), 1) := by decide +kernel
theorem dX9_link_17 : decode cX9_link 17 = .ok (.ireturn, 1) := by decide +kernel
theorem dX9_link_18 : decode cX9_link 18 = .ok (.aload_n 0, 1) := by decide +kernel
theorem dX9_link_19 : decode cX9_link 19 = .ok (.getfield 44, 3) := by decide +kernel
theorem dX9_link_22 : decode cX9_link 22 = .ok (.iload_n 1, 1) := by decide +kernel
theorem dX9_link_23 : decode cX9_link 23 = .ok (.iload_n 2, 1) := by decide +kernel
theorem dX9_link_24 : decode cX9_link 24 = .ok (.invokevirtual 202, 3) := by decide +kernel
theorem dX9_link_27 : decode cX9_link 27 = .ok (.ifCond .eq 5, 3) := by decide +kernel
theorem dX9_link_30 : decode cX9_link 30 = .ok (.iconst 1, 1) := by decide +kernel
theorem dX9_link_31 : decode cX9_link 31 = .ok (.ireturn, 1) := by decide +kernel
theorem dX9_link_32 : decode cX9_link 32 = .ok (.aload_n 0, 1) := by decide +kernel
theorem dX9_link_33 : decode cX9_link 33 = .ok (.getfield 44, 3) := by decide +kernel
theorem dX9_link_36 : decode cX9_link 36 = .ok (.iload_n 1, 1) := by decide +kernel
theorem dX9_link_37 : decode cX9_link 37 = .ok (.iload_n 2, 1) := by decide +kernel
theorem dX9_link_38 : decode cX9_link 38 = .ok (.iconst 1, 1) := by decide +kernel
theorem dX9_link_39 : decode cX9_link 39 = .ok (.invokevirtual 205, 3) := by decide +kernel
theorem dX9_link_42 : decode cX9_link 42 = .ok (.iconst (-1), 1) := by decide +kernel
theorem dX9_link_43 : decode cX9_link 43 = .ok (.if_icmp .ne 7, 3) := by decide +kernel
theorem dX9_link_46 : decode cX9_link 46 = .ok (.iconst 0, 1) := by decide +kernel
theorem dX9_link_47 : decode cX9_link 47 = .ok (.goto 4, 3) := by decide +kernel
theorem dX9_link_50 : decode cX9_link 50 = .ok (.iconst 2, 1) := by decide +kernel
theorem dX9_link_51 : decode cX9_link 51 = .ok (.ireturn, 1) := by decide +kernel
theorem dX9_first_0 : decode cX9_first 0 = .ok (.aload_n 0, 1) := by decide +kernel
theorem dX9_first_1 : decode cX9_first 1 = .ok (.iload_n 1, 1) := by decide +kernel
theorem dX9_first_2 : decode cX9_first 2 = .ok (.iload_n 2, 1) := by decide +kernel
theorem dX9_first_3 : decode cX9_first 3 = .ok (.invokevirtual 195, 3) := by decide +kernel
theorem dX9_first_6 : decode cX9_first 6 = .ok (.ifCond .eq 10, 3) := by decide +kernel
theorem dX9_first_9 : decode cX9_first 9 = .ok (.aload_n 0, 1) := by decide +kernel
theorem dX9_first_10 : decode cX9_first 10 = .ok (.invokevirtual 198, 3) := by decide +kernel
theorem dX9_first_13 : decode cX9_first 13 = .ok (.ifCond .ne 5, 3) := by decide +kernel
theorem dX9_first_16 : decode cX9_first 16 = .ok (.iconst (-1), 1) := by decide +kernel
theorem dX9_first_17 : decode cX9_first 17 = .ok (.ireturn, 1) := by decide +kernel
theorem dX9_first_18 : decode cX9_first 18 = .ok (.aload_n 0, 1) := by decide +kernel
theorem dX9_first_19 : decode cX9_first 19 = .ok (.getfield 44, 3) := by decide +kernel
theorem dX9_first_22 : decode cX9_first 22 = .ok (.iload_n 1, 1) := by decide +kernel
theorem dX9_first_23 : decode cX9_first 23 = .ok (.iload_n 2, 1) := by decide +kernel
theorem dX9_first_24 : decode cX9_first 24 = .ok (.iload_n 3, 1) := by decide +kernel
theorem dX9_first_25 : decode cX9_first 25 = .ok (.invokevirtual 205, 3) := by decide +kernel
theorem dX9_first_28 : decode cX9_first 28 = .ok (.ireturn, 1) := by decide +kernel
theorem dX9_why_0 : decode cX9_why 0 = .ok (.aload_n 0, 1) := by decide +kernel
theorem dX9_why_1 : decode cX9_why 1 = .ok (.iload_n 1, 1) := by decide +kernel
theorem dX9_why_2 : decode cX9_why 2 = .ok (.iload_n 2, 1) := by decide +kernel
theorem dX9_why_3 : decode cX9_why 3 = .ok (.invokevirtual 195, 3) := by decide +kernel
theorem dX9_why_6 : decode cX9_why 6 = .ok (.ifCond .eq 22, 3) := by decide +kernel
theorem dX9_why_9 : decode cX9_why 9 = .ok (.aload_n 0, 1) := by decide +kernel
theorem dX9_why_10 : decode cX9_why 10 = .ok (.invokevirtual 198, 3) := by decide +kernel
theorem dX9_why_13 : decode cX9_why 13 = .ok (.ifCond .eq 15, 3) := by decide +kernel
theorem dX9_why_16 : decode cX9_why 16 = .ok (.aload_n 0, 1) := by decide +kernel
theorem dX9_why_17 : decode cX9_why 17 = .ok (.getfield 44, 3) := by decide +kernel
theorem dX9_why_20 : decode cX9_why 20 = .ok (.iload_n 1, 1) := by decide +kernel
theorem dX9_why_21 : decode cX9_why 21 = .ok (.iload_n 2, 1) := by decide +kernel
theorem dX9_why_22 : decode cX9_why 22 = .ok (.invokevirtual 202, 3) := by decide +kernel
theorem dX9_why_25 : decode cX9_why 25 = .ok (.ifCond .ne 5, 3) := by decide +kernel
theorem dX9_why_28 : decode cX9_why 28 = .ok (.iconst (-1), 1) := by decide +kernel
theorem dX9_why_29 : decode cX9_why 29 = .ok (.ireturn, 1) := by decide +kernel
theorem dX9_why_30 : decode cX9_why 30 = .ok (.aload_n 0, 1) := by decide +kernel
theorem dX9_why_31 : decode cX9_why 31 = .ok (.getfield 53, 3) := by decide +kernel
theorem dX9_why_34 : decode cX9_why 34 = .ok (.iload_n 1, 1) := by decide +kernel
theorem dX9_why_35 : decode cX9_why 35 = .ok (.iload_n 2, 1) := by decide +kernel
theorem dX9_why_36 : decode cX9_why 36 = .ok (.invokevirtual 209, 3) := by decide +kernel
theorem dX9_why_39 : decode cX9_why 39 = .ok (.ireturn, 1) := by decide +kernel
theorem dX9_quarrel_0 : decode cX9_quarrel 0 = .ok (.aload_n 0, 1) := by decide +kernel
theorem dX9_quarrel_1 : decode cX9_quarrel 1 = .ok (.invokevirtual 172, 3) := by decide +kernel
theorem dX9_quarrel_4 : decode cX9_quarrel 4 = .ok (.aload_n 0, 1) := by decide +kernel
theorem dX9_quarrel_5 : decode cX9_quarrel 5 = .ok (.getfield 44, 3) := by decide +kernel
theorem dX9_quarrel_8 : decode cX9_quarrel 8 = .ok (.getfield 175, 3) := by decide +kernel
theorem dX9_quarrel_11 : decode cX9_quarrel 11 = .ok (.ifCond .ne 13, 3) := by decide +kernel
theorem dX9_quarrel_14 : decode cX9_quarrel 14 = .ok (.aload_n 0, 1) := by decide +kernel
theorem dX9_quarrel_15 : decode cX9_quarrel 15 = .ok (.getfield 44, 3) := by decide +kernel
theorem dX9_quarrel_18 : decode cX9_quarrel 18 = .ok (.getfield 178, 3) := by decide +kernel
theorem dX9_quarrel_21 : decode cX9_quarrel 21 = .ok (.ifCond .le 5, 3) := by decide +kernel
theorem dX9_quarrel_24 : decode cX9_quarrel 24 = .ok (.iconst (-1), 1) := by decide +kernel
theorem dX9_quarrel_25 : decode cX9_quarrel 25 = .ok (.ireturn, 1) := by decide +kernel
theorem dX9_quarrel_26 : decode cX9_quarrel 26 = .ok (.aload_n 0, 1) := by decide +kernel
theorem dX9_quarrel_27 : decode cX9_quarrel 27 = .ok (.getfield 53, 3) := by decide +kernel
theorem dX9_quarrel_30 : decode cX9_quarrel 30 = .ok (.invokevirtual 213, 3) := by decide +kernel
theorem dX9_quarrel_33 : decode cX9_quarrel 33 = .ok (.ireturn, 1) := by decide +kernel
theorem dX9_kin_0 : decode cX9_kin 0 = .ok (.aload_n 0, 1) := by decide +kernel
theorem dX9_kin_1 : decode cX9_kin 1 = .ok (.iload_n 2, 1) := by decide +kernel
theorem dX9_kin_2 : decode cX9_kin 2 = .ok (.iload_n 3, 1) := by decide +kernel
theorem dX9_kin_3 : decode cX9_kin 3 = .ok (.invokevirtual 195, 3) := by decide +kernel
theorem dX9_kin_6 : decode cX9_kin 6 = .ok (.ifCond .eq 11, 3) := by decide +kernel
theorem dX9_kin_9 : decode cX9_kin 9 = .ok (.aload_n 0, 1) := by decide +kernel
theorem dX9_kin_10 : decode cX9_kin 10 = .ok (.iload_n 1, 1) := by decide +kernel
theorem dX9_kin_11 : decode cX9_kin 11 = .ok (.invokevirtual 181, 3) := by decide +kernel
theorem dX9_kin_14 : decode cX9_kin 14 = .ok (.ifCond .ne 5, 3) := by decide +kernel
theorem dX9_kin_17 : decode cX9_kin 17 = .ok (.iconst (-1), 1) := by decide +kernel
theorem dX9_kin_18 : decode cX9_kin 18 = .ok (.ireturn, 1) := by decide +kernel
theorem dX9_kin_19 : decode cX9_kin 19 = .ok (.aload_n 0, 1) := by decide +kernel
theorem dX9_kin_20 : decode cX9_kin 20 = .ok (.getfield 62, 3) := by decide +kernel
theorem dX9_kin_23 : decode cX9_kin 23 = .ok (.aload_n 0, 1) := by decide +kernel
theorem dX9_kin_24 : decode cX9_kin 24 = .ok (.getfield 44, 3) := by decide +kernel
theorem dX9_kin_27 : decode cX9_kin 27 = .ok (.iload_n 1, 1) := by decide +kernel
theorem dX9_kin_28 : decode cX9_kin 28 = .ok (.invokevirtual 184, 3) := by decide +kernel
theorem dX9_kin_31 : decode cX9_kin 31 = .ok (.iload_n 2, 1) := by decide +kernel
theorem dX9_kin_32 : decode cX9_kin 32 = .ok (.iload_n 3, 1) := by decide +kernel
theorem dX9_kin_33 : decode cX9_kin 33 = .ok (.invokevirtual 216, 3) := by decide +kernel
theorem dX9_kin_36 : decode cX9_kin 36 = .ok (.ireturn, 1) := by decide +kernel
theorem dX9_always_0 : decode cX9_always 0 = .ok (.aload_n 0, 1) := by decide +kernel
theorem dX9_always_1 : decode cX9_always 1 = .ok (.iload_n 1, 1) := by decide +kernel
theorem dX9_always_2 : decode cX9_always 2 = .ok (.iload_n 2, 1) := by decide +kernel
theorem dX9_always_3 : decode cX9_always 3 = .ok (.invokevirtual 195, 3) := by decide +kernel
theorem dX9_always_6 : decode cX9_always 6 = .ok (.ifCond .eq 10, 3) := by decide +kernel
theorem dX9_always_9 : decode cX9_always 9 = .ok (.aload_n 0, 1) := by decide +kernel
theorem dX9_always_10 : decode cX9_always 10 = .ok (.invokevirtual 198, 3) := by decide +kernel
theorem dX9_always_13 : decode cX9_always 13 = .ok (.ifCond .ne 6, 3) := by decide +kernel
theorem dX9_always_16 : decode cX9_always 16 = .ok (.bipush (-3), 2) := by decide +kernel
theorem dX9_always_18 : decode cX9_always 18 = .ok (.ireturn, 1) := by decide +kernel
theorem dX9_always_19 : decode cX9_always 19 = .ok (.aload_n 0, 1) := by decide +kernel
theorem dX9_always_20 : decode cX9_always 20 = .ok (.getfield 62, 3) := by decide +kernel
theorem dX9_always_23 : decode cX9_always 23 = .ok (.aload_n 0, 1) := by decide +kernel
theorem dX9_always_24 : decode cX9_always 24 = .ok (.getfield 44, 3) := by decide +kernel
theorem dX9_always_27 : decode cX9_always 27 = .ok (.iconst 0, 1) := by decide +kernel
theorem dX9_always_28 : decode cX9_always 28 = .ok (.invokevirtual 184, 3) := by decide +kernel
theorem dX9_always_31 : decode cX9_always 31 = .ok (.iload_n 1, 1) := by decide +kernel
theorem dX9_always_32 : decode cX9_always 32 = .ok (.iload_n 2, 1) := by decide +kernel
theorem dX9_always_33 : decode cX9_always 33 = .ok (.invokevirtual 216, 3) := by decide +kernel
theorem dX9_always_36 : decode cX9_always 36 = .ok (.istore_n 3, 1) := by decide +kernel
theorem dX9_always_37 : decode cX9_always 37 = .ok (.iconst 1, 1) := by decide +kernel
theorem dX9_always_38 : decode cX9_always 38 = .ok (.istore 4, 2) := by decide +kernel
theorem dX9_always_40 : decode cX9_always 40 = .ok (.iload 4, 2) := by decide +kernel
theorem dX9_always_42 : decode cX9_always 42 = .ok (.aload_n 0, 1) := by decide +kernel
theorem dX9_always_43 : decode cX9_always 43 = .ok (.getfield 44, 3) := by decide +kernel
theorem dX9_always_46 : decode cX9_always 46 = .ok (.getfield 178, 3) := by decide +kernel
theorem dX9_always_49 : decode cX9_always 49 = .ok (.if_icmp .ge 34, 3) := by decide +kernel
theorem dX9_always_52 : decode cX9_always 52 = .ok (.aload_n 0, 1) := by decide +kernel
theorem dX9_always_53 : decode cX9_always 53 = .ok (.getfield 62, 3) := by decide +kernel
theorem dX9_always_56 : decode cX9_always 56 = .ok (.aload_n 0, 1) := by decide +kernel
theorem dX9_always_57 : decode cX9_always 57 = .ok (.getfield 44, 3) := by decide +kernel
theorem dX9_always_60 : decode cX9_always 60 = .ok (.iload 4, 2) := by decide +kernel
theorem dX9_always_62 : decode cX9_always 62 = .ok (.invokevirtual 184, 3) := by decide +kernel
theorem dX9_always_65 : decode cX9_always 65 = .ok (.iload_n 1, 1) := by decide +kernel
theorem dX9_always_66 : decode cX9_always 66 = .ok (.iload_n 2, 1) := by decide +kernel
theorem dX9_always_67 : decode cX9_always 67 = .ok (.invokevirtual 216, 3) := by decide +kernel
theorem dX9_always_70 : decode cX9_always 70 = .ok (.iload_n 3, 1) := by decide +kernel
theorem dX9_always_71 : decode cX9_always 71 = .ok (.if_icmp .eq 6, 3) := by decide +kernel
theorem dX9_always_74 : decode cX9_always 74 = .ok (.bipush (-2), 2) := by decide +kernel
theorem dX9_always_76 : decode cX9_always 76 = .ok (.ireturn, 1) := by decide +kernel
theorem dX9_always_77 : decode cX9_always 77 = .ok (.iinc 4 1, 3) := by decide +kernel
theorem dX9_always_80 : decode cX9_always 80 = .ok (.goto (-40), 3) := by decide +kernel
theorem dX9_always_83 : decode cX9_always 83 = .ok (.iload_n 3, 1) := by decide +kernel
theorem dX9_always_84 : decode cX9_always 84 = .ok (.ireturn, 1) := by decide +kernel
theorem dX9_about_0 : decode cX9_about 0 = .ok (.iload_n 1, 1) := by decide +kernel
theorem dX9_about_1 : decode cX9_about 1 = .ok (.tableswitch 135 0 9 #[55, 63, 71, 79, 87, 95, 103, 111, 119, 127], 55) := by decide +kernel
theorem dX9_about_56 : decode cX9_about 56 = .ok (.aload_n 0, 1) := by decide +kernel
theorem dX9_about_57 : decode cX9_about 57 = .ok (.getfield 12, 3) := by decide +kernel
theorem dX9_about_60 : decode cX9_about 60 = .ok (.getfield 120, 3) := by decide +kernel
theorem dX9_about_63 : decode cX9_about 63 = .ok (.ireturn, 1) := by decide +kernel
theorem dX9_about_64 : decode cX9_about 64 = .ok (.aload_n 0, 1) := by decide +kernel
theorem dX9_about_65 : decode cX9_about 65 = .ok (.getfield 12, 3) := by decide +kernel
theorem dX9_about_68 : decode cX9_about 68 = .ok (.getfield 220, 3) := by decide +kernel
theorem dX9_about_71 : decode cX9_about 71 = .ok (.ireturn, 1) := by decide +kernel
theorem dX9_about_72 : decode cX9_about 72 = .ok (.aload_n 0, 1) := by decide +kernel
theorem dX9_about_73 : decode cX9_about 73 = .ok (.getfield 19, 3) := by decide +kernel
theorem dX9_about_76 : decode cX9_about 76 = .ok (.getfield 223, 3) := by decide +kernel
theorem dX9_about_79 : decode cX9_about 79 = .ok (.ireturn, 1) := by decide +kernel
theorem dX9_about_80 : decode cX9_about 80 = .ok (.aload_n 0, 1) := by decide +kernel
theorem dX9_about_81 : decode cX9_about 81 = .ok (.getfield 44, 3) := by decide +kernel
theorem dX9_about_84 : decode cX9_about 84 = .ok (.getfield 226, 3) := by decide +kernel
theorem dX9_about_87 : decode cX9_about 87 = .ok (.ireturn, 1) := by decide +kernel
theorem dX9_about_88 : decode cX9_about 88 = .ok (.aload_n 0, 1) := by decide +kernel
theorem dX9_about_89 : decode cX9_about 89 = .ok (.getfield 19, 3) := by decide +kernel
theorem dX9_about_92 : decode cX9_about 92 = .ok (.getfield 229, 3) := by decide +kernel
theorem dX9_about_95 : decode cX9_about 95 = .ok (.ireturn, 1) := by decide +kernel
theorem dX9_about_96 : decode cX9_about 96 = .ok (.aload_n 0, 1) := by decide +kernel
theorem dX9_about_97 : decode cX9_about 97 = .ok (.getfield 19, 3) := by decide +kernel
theorem dX9_about_100 : decode cX9_about 100 = .ok (.getfield 232, 3) := by decide +kernel
theorem dX9_about_103 : decode cX9_about 103 = .ok (.ireturn, 1) := by decide +kernel
theorem dX9_about_104 : decode cX9_about 104 = .ok (.aload_n 0, 1) := by decide +kernel
theorem dX9_about_105 : decode cX9_about 105 = .ok (.getfield 19, 3) := by decide +kernel
theorem dX9_about_108 : decode cX9_about 108 = .ok (.getfield 235, 3) := by decide +kernel
theorem dX9_about_111 : decode cX9_about 111 = .ok (.ireturn, 1) := by decide +kernel
theorem dX9_about_112 : decode cX9_about 112 = .ok (.aload_n 0, 1) := by decide +kernel
theorem dX9_about_113 : decode cX9_about 113 = .ok (.getfield 19, 3) := by decide +kernel
theorem dX9_about_116 : decode cX9_about 116 = .ok (.getfield 238, 3) := by decide +kernel
theorem dX9_about_119 : decode cX9_about 119 = .ok (.ireturn, 1) := by decide +kernel
theorem dX9_about_120 : decode cX9_about 120 = .ok (.aload_n 0, 1) := by decide +kernel
theorem dX9_about_121 : decode cX9_about 121 = .ok (.getfield 19, 3) := by decide +kernel
theorem dX9_about_124 : decode cX9_about 124 = .ok (.getfield 241, 3) := by decide +kernel
theorem dX9_about_127 : decode cX9_about 127 = .ok (.ireturn, 1) := by decide +kernel
theorem dX9_about_128 : decode cX9_about 128 = .ok (.aload_n 0, 1) := by decide +kernel
theorem dX9_about_129 : decode cX9_about 129 = .ok (.getfield 19, 3) := by decide +kernel
theorem dX9_about_132 : decode cX9_about 132 = .ok (.getfield 244, 3) := by decide +kernel
theorem dX9_about_135 : decode cX9_about 135 = .ok (.ireturn, 1) := by decide +kernel
theorem dX9_about_136 : decode cX9_about 136 = .ok (.iconst (-1), 1) := by decide +kernel
theorem dX9_about_137 : decode cX9_about 137 = .ok (.ireturn, 1) := by decide +kernel
theorem dX9_single_0 : decode cX9_single 0 = .ok (.iload_n 2, 1) := by decide +kernel
theorem dX9_single_1 : decode cX9_single 1 = .ok (.invokestatic 70, 3) := by decide +kernel
theorem dX9_single_4 : decode cX9_single 4 = .ok (.ifCond .eq 36, 3) := by decide +kernel
theorem dX9_single_7 : decode cX9_single 7 = .ok (.iload_n 3, 1) := by decide +kernel
theorem dX9_single_8 : decode cX9_single 8 = .ok (.invokestatic 74, 3) := by decide +kernel
theorem dX9_single_11 : decode cX9_single 11 = .ok (.ifCond .eq 29, 3) := by decide +kernel
theorem dX9_single_14 : decode cX9_single 14 = .ok (.lload 4, 2) := by decide +kernel
theorem dX9_single_16 : decode cX9_single 16 = .ok (.invokestatic 77, 3) := by decide +kernel
theorem dX9_single_19 : decode cX9_single 19 = .ok (.ifCond .eq 21, 3) := by decide +kernel
theorem dX9_single_22 : decode cX9_single 22 = .ok (.iload 6, 2) := by decide +kernel
theorem dX9_single_24 : decode cX9_single 24 = .ok (.iconst (-1), 1) := by decide +kernel
theorem dX9_single_25 : decode cX9_single 25 = .ok (.if_icmp .eq 11, 3) := by decide +kernel
theorem dX9_single_28 : decode cX9_single 28 = .ok (.iload 6, 2) := by decide +kernel
theorem dX9_single_30 : decode cX9_single 30 = .ok (.invokestatic 247, 3) := by decide +kernel
theorem dX9_single_33 : decode cX9_single 33 = .ok (.ifCond .eq 7, 3) := by decide +kernel
theorem dX9_single_36 : decode cX9_single 36 = .ok (.iconst 1, 1) := by decide +kernel
theorem dX9_single_37 : decode cX9_single 37 = .ok (.goto 4, 3) := by decide +kernel
theorem dX9_single_40 : decode cX9_single 40 = .ok (.iconst 0, 1) := by decide +kernel
theorem dX9_single_41 : decode cX9_single 41 = .ok (.istore 7, 2) := by decide +kernel
theorem dX9_single_43 : decode cX9_single 43 = .ok (.iload 7, 2) := by decide +kernel
theorem dX9_single_45 : decode cX9_single 45 = .ok (.ifCond .eq 14, 3) := by decide +kernel
theorem dX9_single_48 : decode cX9_single 48 = .ok (.aload_n 0, 1) := by decide +kernel
theorem dX9_single_49 : decode cX9_single 49 = .ok (.getfield 12, 3) := by decide +kernel
theorem dX9_single_52 : decode cX9_single 52 = .ok (.iconst 1, 1) := by decide +kernel
theorem dX9_single_53 : decode cX9_single 53 = .ok (.invokevirtual 83, 3) := by decide +kernel
theorem dX9_single_56 : decode cX9_single 56 = .ok (.ifCond .ne 5, 3) := by decide +kernel
theorem dX9_single_59 : decode cX9_single 59 = .ok (.iconst (-1), 1) := by decide +kernel
theorem dX9_single_60 : decode cX9_single 60 = .ok (.ireturn, 1) := by decide +kernel
theorem dX9_single_61 : decode cX9_single 61 = .ok (.aload_n 0, 1) := by decide +kernel
theorem dX9_single_62 : decode cX9_single 62 = .ok (.getfield 12, 3) := by decide +kernel
theorem dX9_single_65 : decode cX9_single 65 = .ok (.iload_n 2, 1) := by decide +kernel
theorem dX9_single_66 : decode cX9_single 66 = .ok (.iconst (-1), 1) := by decide +kernel
theorem dX9_single_67 : decode cX9_single 67 = .ok (.invokevirtual 86, 3) := by decide +kernel
theorem dX9_single_70 : decode cX9_single 70 = .ok (.aload_n 0, 1) := by decide +kernel
theorem dX9_single_71 : decode cX9_single 71 = .ok (.getfield 12, 3) := by decide +kernel
theorem dX9_single_74 : decode cX9_single 74 = .ok (.iload_n 1, 1) := by decide +kernel
theorem dX9_single_75 : decode cX9_single 75 = .ok (.iload_n 3, 1) := by decide +kernel
theorem dX9_single_76 : decode cX9_single 76 = .ok (.lload 4, 2) := by decide +kernel
theorem dX9_single_78 : decode cX9_single 78 = .ok (.iload 6, 2) := by decide +kernel
theorem dX9_single_80 : decode cX9_single 80 = .ok (.invokevirtual 90, 3) := by decide +kernel
theorem dX9_single_83 : decode cX9_single 83 = .ok (.aload_n 0, 1) := by decide +kernel
theorem dX9_single_84 : decode cX9_single 84 = .ok (.invokevirtual 94, 3) := by decide +kernel
theorem dX9_single_87 : decode cX9_single 87 = .ok (.ireturn, 1) := by decide +kernel
theorem dX9_closeRecord_0 : decode cX9_closeRecord 0 = .ok (.aload_n 0, 1) := by decide +kernel
theorem dX9_closeRecord_1 : decode cX9_closeRecord 1 = .ok (.iconst 0, 1) := by decide +kernel
theorem dX9_closeRecord_2 : decode cX9_closeRecord 2 = .ok (.putfield 66, 3) := by decide +kernel
theorem dX9_closeRecord_5 : decode cX9_closeRecord 5 = .ok (.aload_n 0, 1) := by decide +kernel
theorem dX9_closeRecord_6 : decode cX9_closeRecord 6 = .ok (.getfield 12, 3) := by decide +kernel
theorem dX9_closeRecord_9 : decode cX9_closeRecord 9 = .ok (.getfield 120, 3) := by decide +kernel
theorem dX9_closeRecord_12 : decode cX9_closeRecord 12 = .ok (.iconst 1, 1) := by decide +kernel
theorem dX9_closeRecord_13 : decode cX9_closeRecord 13 = .ok (.isub, 1) := by decide +kernel
theorem dX9_closeRecord_14 : decode cX9_closeRecord 14 = .ok (.ireturn, 1) := by decide +kernel
theorem dX9_seekWays_0 : decode cX9_seekWays 0 = .ok (.aload_n 0, 1) := by decide +kernel
theorem dX9_seekWays_1 : decode cX9_seekWays 1 = .ok (.getfield 66, 3) := by decide +kernel
theorem dX9_seekWays_4 : decode cX9_seekWays 4 = .ok (.ifCond .eq 4, 3) := by decide +kernel
theorem dX9_seekWays_7 : decode cX9_seekWays 7 = .ok (.return_, 1) := by decide +kernel
theorem dX9_seekWays_8 : decode cX9_seekWays 8 = .ok (.aload_n 0, 1) := by decide +kernel
theorem dX9_seekWays_9 : decode cX9_seekWays 9 = .ok (.getfield 35, 3) := by decide +kernel
theorem dX9_seekWays_12 : decode cX9_seekWays 12 = .ok (.invokevirtual 250, 3) := by decide +kernel
theorem dX9_seekWays_15 : decode cX9_seekWays 15 = .ok (.aload_n 0, 1) := by decide +kernel
theorem dX9_seekWays_16 : decode cX9_seekWays 16 = .ok (.getfield 62, 3) := by decide +kernel
theorem dX9_seekWays_19 : decode cX9_seekWays 19 = .ok (.invokevirtual 253, 3) := by decide +kernel
theorem dX9_seekWays_22 : decode cX9_seekWays 22 = .ok (.aload_n 0, 1) := by decide +kernel
theorem dX9_seekWays_23 : decode cX9_seekWays 23 = .ok (.getfield 53, 3) := by decide +kernel
theorem dX9_seekWays_26 : decode cX9_seekWays 26 = .ok (.invokevirtual 254, 3) := by decide +kernel
theorem dX9_seekWays_29 : decode cX9_seekWays 29 = .ok (.aload_n 0, 1) := by decide +kernel
theorem dX9_seekWays_30 : decode cX9_seekWays 30 = .ok (.getfield 44, 3) := by decide +kernel
theorem dX9_seekWays_33 : decode cX9_seekWays 33 = .ok (.aload_n 0, 1) := by decide +kernel
theorem dX9_seekWays_34 : decode cX9_seekWays 34 = .ok (.getfield 12, 3) := by decide +kernel
theorem dX9_seekWays_37 : decode cX9_seekWays 37 = .ok (.invokevirtual 257, 3) := by decide +kernel
theorem dX9_seekWays_40 : decode cX9_seekWays 40 = .ok (.invokevirtual 260, 3) := by decide +kernel
theorem dX9_seekWays_43 : decode cX9_seekWays 43 = .ok (.aload_n 0, 1) := by decide +kernel
theorem dX9_seekWays_44 : decode cX9_seekWays 44 = .ok (.iconst 1, 1) := by decide +kernel
theorem dX9_seekWays_45 : decode cX9_seekWays 45 = .ok (.putfield 66, 3) := by decide +kernel
theorem dX9_seekWays_48 : decode cX9_seekWays 48 = .ok (.return_, 1) := by decide +kernel
theorem dX9_haveWays_0 : decode cX9_haveWays 0 = .ok (.aload_n 0, 1) := by decide +kernel
theorem dX9_haveWays_1 : decode cX9_haveWays 1 = .ok (.invokevirtual 172, 3) := by decide +kernel
theorem dX9_haveWays_4 : decode cX9_haveWays 4 = .ok (.aload_n 0, 1) := by decide +kernel
theorem dX9_haveWays_5 : decode cX9_haveWays 5 = .ok (.getfield 44, 3) := by decide +kernel
theorem dX9_haveWays_8 : decode cX9_haveWays 8 = .ok (.getfield 175, 3) := by decide +kernel
theorem dX9_haveWays_11 : decode cX9_haveWays 11 = .ok (.ifCond .ne 17, 3) := by decide +kernel
theorem dX9_haveWays_14 : decode cX9_haveWays 14 = .ok (.aload_n 0, 1) := by decide +kernel
theorem dX9_haveWays_15 : decode cX9_haveWays 15 = .ok (.getfield 44, 3) := by decide +kernel
theorem dX9_haveWays_18 : decode cX9_haveWays 18 = .ok (.getfield 178, 3) := by decide +kernel
theorem dX9_haveWays_21 : decode cX9_haveWays 21 = .ok (.ifCond .le 7, 3) := by decide +kernel
theorem dX9_haveWays_24 : decode cX9_haveWays 24 = .ok (.iconst 1, 1) := by decide +kernel
theorem dX9_haveWays_25 : decode cX9_haveWays 25 = .ok (.goto 4, 3) := by decide +kernel
theorem dX9_haveWays_28 : decode cX9_haveWays 28 = .ok (.iconst 0, 1) := by decide +kernel
theorem dX9_haveWays_29 : decode cX9_haveWays 29 = .ok (.ireturn, 1) := by decide +kernel
theorem dX9_isWay_0 : decode cX9_isWay 0 = .ok (.aload_n 0, 1) := by decide +kernel
theorem dX9_isWay_1 : decode cX9_isWay 1 = .ok (.invokevirtual 172, 3) := by decide +kernel
theorem dX9_isWay_4 : decode cX9_isWay 4 = .ok (.aload_n 0, 1) := by decide +kernel
theorem dX9_isWay_5 : decode cX9_isWay 5 = .ok (.getfield 44, 3) := by decide +kernel
theorem dX9_isWay_8 : decode cX9_isWay 8 = .ok (.getfield 175, 3) := by decide +kernel
theorem dX9_isWay_11 : decode cX9_isWay 11 = .ok (.ifCond .ne 22, 3) := by decide +kernel
theorem dX9_isWay_14 : decode cX9_isWay 14 = .ok (.iload_n 1, 1) := by decide +kernel
theorem dX9_isWay_15 : decode cX9_isWay 15 = .ok (.ifCond .lt 18, 3) := by decide +kernel
theorem dX9_isWay_18 : decode cX9_isWay 18 = .ok (.iload_n 1, 1) := by decide +kernel
theorem dX9_isWay_19 : decode cX9_isWay 19 = .ok (.aload_n 0, 1) := by decide +kernel
theorem dX9_isWay_20 : decode cX9_isWay 20 = .ok (.getfield 44, 3) := by decide +kernel
theorem dX9_isWay_23 : decode cX9_isWay 23 = .ok (.getfield 178, 3) := by decide +kernel
theorem dX9_isWay_26 : decode cX9_isWay 26 = .ok (.if_icmp .ge 7, 3) := by decide +kernel
theorem dX9_isWay_29 : decode cX9_isWay 29 = .ok (.iconst 1, 1) := by decide +kernel
theorem dX9_isWay_30 : decode cX9_isWay 30 = .ok (.goto 4, 3) := by decide +kernel
theorem dX9_isWay_33 : decode cX9_isWay 33 = .ok (.iconst 0, 1) := by decide +kernel
theorem dX9_isWay_34 : decode cX9_isWay 34 = .ok (.ireturn, 1) := by decide +kernel
theorem dX9_areRoles_0 : decode cX9_areRoles 0 = .ok (.aload_n 0, 1) := by decide +kernel
theorem dX9_areRoles_1 : decode cX9_areRoles 1 = .ok (.getfield 12, 3) := by decide +kernel
theorem dX9_areRoles_4 : decode cX9_areRoles 4 = .ok (.iload_n 1, 1) := by decide +kernel
theorem dX9_areRoles_5 : decode cX9_areRoles 5 = .ok (.invokevirtual 150, 3) := by decide +kernel
theorem dX9_areRoles_8 : decode cX9_areRoles 8 = .ok (.ifCond .eq 18, 3) := by decide +kernel
theorem dX9_areRoles_11 : decode cX9_areRoles 11 = .ok (.aload_n 0, 1) := by decide +kernel
theorem dX9_areRoles_12 : decode cX9_areRoles 12 = .ok (.getfield 12, 3) := by decide +kernel
theorem dX9_areRoles_15 : decode cX9_areRoles 15 = .ok (.iload_n 2, 1) := by decide +kernel
theorem dX9_areRoles_16 : decode cX9_areRoles 16 = .ok (.invokevirtual 150, 3) := by decide +kernel
theorem dX9_areRoles_19 : decode cX9_areRoles 19 = .ok (.ifCond .eq 7, 3) := by decide +kernel
theorem dX9_areRoles_22 : decode cX9_areRoles 22 = .ok (.iconst 1, 1) := by decide +kernel
theorem dX9_areRoles_23 : decode cX9_areRoles 23 = .ok (.goto 4, 3) := by decide +kernel
theorem dX9_areRoles_26 : decode cX9_areRoles 26 = .ok (.iconst 0, 1) := by decide +kernel
theorem dX9_areRoles_27 : decode cX9_areRoles 27 = .ok (.ireturn, 1) := by decide +kernel
theorem dX9_isYear_0 : decode cX9_isYear 0 = .ok (.iload_n 0, 1) := by decide +kernel
theorem dX9_isYear_1 : decode cX9_isYear 1 = .ok (.ifCond .lt 14, 3) := by decide +kernel
theorem dX9_isYear_4 : decode cX9_isYear 4 = .ok (.iload_n 0, 1) := by decide +kernel
theorem dX9_isYear_5 : decode cX9_isYear 5 = .ok (.sipush 3000, 3) := by decide +kernel
theorem dX9_isYear_8 : decode cX9_isYear 8 = .ok (.if_icmp .gt 7, 3) := by decide +kernel
theorem dX9_isYear_11 : decode cX9_isYear 11 = .ok (.iconst 1, 1) := by decide +kernel
theorem dX9_isYear_12 : decode cX9_isYear 12 = .ok (.goto 4, 3) := by decide +kernel
theorem dX9_isYear_15 : decode cX9_isYear 15 = .ok (.iconst 0, 1) := by decide +kernel
theorem dX9_isYear_16 : decode cX9_isYear 16 = .ok (.ireturn, 1) := by decide +kernel
theorem dX9_isSex_0 : decode cX9_isSex 0 = .ok (.iload_n 0, 1) := by decide +kernel
theorem dX9_isSex_1 : decode cX9_isSex 1 = .ok (.ifCond .lt 12, 3) := by decide +kernel
theorem dX9_isSex_4 : decode cX9_isSex 4 = .ok (.iload_n 0, 1) := by decide +kernel
theorem dX9_isSex_5 : decode cX9_isSex 5 = .ok (.iconst 2, 1) := by decide +kernel
theorem dX9_isSex_6 : decode cX9_isSex 6 = .ok (.if_icmp .gt 7, 3) := by decide +kernel
theorem dX9_isSex_9 : decode cX9_isSex 9 = .ok (.iconst 1, 1) := by decide +kernel
theorem dX9_isSex_10 : decode cX9_isSex 10 = .ok (.goto 4, 3) := by decide +kernel
theorem dX9_isSex_13 : decode cX9_isSex 13 = .ok (.iconst 0, 1) := by decide +kernel
theorem dX9_isSex_14 : decode cX9_isSex 14 = .ok (.ireturn, 1) := by decide +kernel
theorem dX9_isAge_0 : decode cX9_isAge 0 = .ok (.iload_n 0, 1) := by decide +kernel
theorem dX9_isAge_1 : decode cX9_isAge 1 = .ok (.ifCond .lt 13, 3) := by decide +kernel
theorem dX9_isAge_4 : decode cX9_isAge 4 = .ok (.iload_n 0, 1) := by decide +kernel
theorem dX9_isAge_5 : decode cX9_isAge 5 = .ok (.bipush 120, 2) := by decide +kernel
theorem dX9_isAge_7 : decode cX9_isAge 7 = .ok (.if_icmp .gt 7, 3) := by decide +kernel
theorem dX9_isAge_10 : decode cX9_isAge 10 = .ok (.iconst 1, 1) := by decide +kernel
theorem dX9_isAge_11 : decode cX9_isAge 11 = .ok (.goto 4, 3) := by decide +kernel
theorem dX9_isAge_14 : decode cX9_isAge 14 = .ok (.iconst 0, 1) := by decide +kernel
theorem dX9_isAge_15 : decode cX9_isAge 15 = .ok (.ireturn, 1) := by decide +kernel
theorem dX9_isPlace_0 : decode cX9_isPlace 0 = .ok (.iload_n 0, 1) := by decide +kernel
theorem dX9_isPlace_1 : decode cX9_isPlace 1 = .ok (.ifCond .lt 13, 3) := by decide +kernel
theorem dX9_isPlace_4 : decode cX9_isPlace 4 = .ok (.iload_n 0, 1) := by decide +kernel
theorem dX9_isPlace_5 : decode cX9_isPlace 5 = .ok (.bipush 14, 2) := by decide +kernel
theorem dX9_isPlace_7 : decode cX9_isPlace 7 = .ok (.if_icmp .ge 7, 3) := by decide +kernel
theorem dX9_isPlace_10 : decode cX9_isPlace 10 = .ok (.iconst 1, 1) := by decide +kernel
theorem dX9_isPlace_11 : decode cX9_isPlace 11 = .ok (.goto 4, 3) := by decide +kernel
theorem dX9_isPlace_14 : decode cX9_isPlace 14 = .ok (.iconst 0, 1) := by decide +kernel
theorem dX9_isPlace_15 : decode cX9_isPlace 15 = .ok (.ireturn, 1) := by decide +kernel
theorem dX9_personIn_0 : decode cX9_personIn 0 = .ok (.lload_n 0, 1) := by decide +kernel
theorem dX9_personIn_1 : decode cX9_personIn 1 = .ok (.iconst 4, 1) := by decide +kernel
theorem dX9_personIn_2 : decode cX9_personIn 2 = .ok (.iload_n 2, 1) := by decide +kernel
theorem dX9_personIn_3 : decode cX9_personIn 3 = .ok (.imul, 1) := by decide +kernel
theorem dX9_personIn_4 : decode cX9_personIn 4 = .ok (.lushr, 1) := by decide +kernel
theorem dX9_personIn_5 : decode cX9_personIn 5 = .ok (.l2i, 1) := by decide +kernel
theorem dX9_personIn_6 : decode cX9_personIn 6 = .ok (.bipush 15, 2) := by decide +kernel
theorem dX9_personIn_8 : decode cX9_personIn 8 = .ok (.iand, 1) := by decide +kernel
theorem dX9_personIn_9 : decode cX9_personIn 9 = .ok (.ireturn, 1) := by decide +kernel
theorem dJ6_bitCount_0f7a4_0 : decode cJ6_bitCount_0f7a4 0 = .ok (.iload_n 0, 1) := by decide +kernel
theorem dJ6_bitCount_0f7a4_1 : decode cJ6_bitCount_0f7a4 1 = .ok (.iload_n 0, 1) := by decide +kernel
theorem dJ6_bitCount_0f7a4_2 : decode cJ6_bitCount_0f7a4 2 = .ok (.iconst 1, 1) := by decide +kernel
theorem dJ6_bitCount_0f7a4_3 : decode cJ6_bitCount_0f7a4 3 = .ok (.iushr, 1) := by decide +kernel
theorem dJ6_bitCount_0f7a4_4 : decode cJ6_bitCount_0f7a4 4 = .ok (.ldc_w 265, 3) := by decide +kernel
theorem dJ6_bitCount_0f7a4_7 : decode cJ6_bitCount_0f7a4 7 = .ok (.iand, 1) := by decide +kernel
theorem dJ6_bitCount_0f7a4_8 : decode cJ6_bitCount_0f7a4 8 = .ok (.isub, 1) := by decide +kernel
theorem dJ6_bitCount_0f7a4_9 : decode cJ6_bitCount_0f7a4 9 = .ok (.istore_n 0, 1) := by decide +kernel
theorem dJ6_bitCount_0f7a4_10 : decode cJ6_bitCount_0f7a4 10 = .ok (.iload_n 0, 1) := by decide +kernel
theorem dJ6_bitCount_0f7a4_11 : decode cJ6_bitCount_0f7a4 11 = .ok (.ldc_w 266, 3) := by decide +kernel
theorem dJ6_bitCount_0f7a4_14 : decode cJ6_bitCount_0f7a4 14 = .ok (.iand, 1) := by decide +kernel
theorem dJ6_bitCount_0f7a4_15 : decode cJ6_bitCount_0f7a4 15 = .ok (.iload_n 0, 1) := by decide +kernel
theorem dJ6_bitCount_0f7a4_16 : decode cJ6_bitCount_0f7a4 16 = .ok (.iconst 2, 1) := by decide +kernel
theorem dJ6_bitCount_0f7a4_17 : decode cJ6_bitCount_0f7a4 17 = .ok (.iushr, 1) := by decide +kernel
theorem dJ6_bitCount_0f7a4_18 : decode cJ6_bitCount_0f7a4 18 = .ok (.ldc_w 266, 3) := by decide +kernel
theorem dJ6_bitCount_0f7a4_21 : decode cJ6_bitCount_0f7a4 21 = .ok (.iand, 1) := by decide +kernel
theorem dJ6_bitCount_0f7a4_22 : decode cJ6_bitCount_0f7a4 22 = .ok (.iadd, 1) := by decide +kernel
theorem dJ6_bitCount_0f7a4_23 : decode cJ6_bitCount_0f7a4 23 = .ok (.istore_n 0, 1) := by decide +kernel
theorem dJ6_bitCount_0f7a4_24 : decode cJ6_bitCount_0f7a4 24 = .ok (.iload_n 0, 1) := by decide +kernel
theorem dJ6_bitCount_0f7a4_25 : decode cJ6_bitCount_0f7a4 25 = .ok (.iload_n 0, 1) := by decide +kernel
theorem dJ6_bitCount_0f7a4_26 : decode cJ6_bitCount_0f7a4 26 = .ok (.iconst 4, 1) := by decide +kernel
theorem dJ6_bitCount_0f7a4_27 : decode cJ6_bitCount_0f7a4 27 = .ok (.iushr, 1) := by decide +kernel
theorem dJ6_bitCount_0f7a4_28 : decode cJ6_bitCount_0f7a4 28 = .ok (.iadd, 1) := by decide +kernel
theorem dJ6_bitCount_0f7a4_29 : decode cJ6_bitCount_0f7a4 29 = .ok (.ldc_w 267, 3) := by decide +kernel
theorem dJ6_bitCount_0f7a4_32 : decode cJ6_bitCount_0f7a4 32 = .ok (.iand, 1) := by decide +kernel
theorem dJ6_bitCount_0f7a4_33 : decode cJ6_bitCount_0f7a4 33 = .ok (.istore_n 0, 1) := by decide +kernel
theorem dJ6_bitCount_0f7a4_34 : decode cJ6_bitCount_0f7a4 34 = .ok (.iload_n 0, 1) := by decide +kernel
theorem dJ6_bitCount_0f7a4_35 : decode cJ6_bitCount_0f7a4 35 = .ok (.iload_n 0, 1) := by decide +kernel
theorem dJ6_bitCount_0f7a4_36 : decode cJ6_bitCount_0f7a4 36 = .ok (.bipush 8, 2) := by decide +kernel
theorem dJ6_bitCount_0f7a4_38 : decode cJ6_bitCount_0f7a4 38 = .ok (.iushr, 1) := by decide +kernel
theorem dJ6_bitCount_0f7a4_39 : decode cJ6_bitCount_0f7a4 39 = .ok (.iadd, 1) := by decide +kernel
theorem dJ6_bitCount_0f7a4_40 : decode cJ6_bitCount_0f7a4 40 = .ok (.istore_n 0, 1) := by decide +kernel
theorem dJ6_bitCount_0f7a4_41 : decode cJ6_bitCount_0f7a4 41 = .ok (.iload_n 0, 1) := by decide +kernel
theorem dJ6_bitCount_0f7a4_42 : decode cJ6_bitCount_0f7a4 42 = .ok (.iload_n 0, 1) := by decide +kernel
theorem dJ6_bitCount_0f7a4_43 : decode cJ6_bitCount_0f7a4 43 = .ok (.bipush 16, 2) := by decide +kernel
theorem dJ6_bitCount_0f7a4_45 : decode cJ6_bitCount_0f7a4 45 = .ok (.iushr, 1) := by decide +kernel
theorem dJ6_bitCount_0f7a4_46 : decode cJ6_bitCount_0f7a4 46 = .ok (.iadd, 1) := by decide +kernel
theorem dJ6_bitCount_0f7a4_47 : decode cJ6_bitCount_0f7a4 47 = .ok (.istore_n 0, 1) := by decide +kernel
theorem dJ6_bitCount_0f7a4_48 : decode cJ6_bitCount_0f7a4 48 = .ok (.iload_n 0, 1) := by decide +kernel
theorem dJ6_bitCount_0f7a4_49 : decode cJ6_bitCount_0f7a4 49 = .ok (.bipush 63, 2) := by decide +kernel
theorem dJ6_bitCount_0f7a4_51 : decode cJ6_bitCount_0f7a4 51 = .ok (.iand, 1) := by decide +kernel
theorem dJ6_bitCount_0f7a4_52 : decode cJ6_bitCount_0f7a4 52 = .ok (.ireturn, 1) := by decide +kernel
theorem dJ7_fill_53178_0 : decode cJ7_fill_53178 0 = .ok (.iconst 0, 1) := by decide +kernel
theorem dJ7_fill_53178_1 : decode cJ7_fill_53178 1 = .ok (.istore_n 2, 1) := by decide +kernel
theorem dJ7_fill_53178_2 : decode cJ7_fill_53178 2 = .ok (.aload_n 0, 1) := by decide +kernel
theorem dJ7_fill_53178_3 : decode cJ7_fill_53178 3 = .ok (.arraylength, 1) := by decide +kernel
theorem dJ7_fill_53178_4 : decode cJ7_fill_53178 4 = .ok (.istore_n 3, 1) := by decide +kernel
theorem dJ7_fill_53178_5 : decode cJ7_fill_53178 5 = .ok (.iload_n 2, 1) := by decide +kernel
theorem dJ7_fill_53178_6 : decode cJ7_fill_53178 6 = .ok (.iload_n 3, 1) := by decide +kernel
theorem dJ7_fill_53178_7 : decode cJ7_fill_53178 7 = .ok (.if_icmp .ge 13, 3) := by decide +kernel
theorem dJ7_fill_53178_10 : decode cJ7_fill_53178 10 = .ok (.aload_n 0, 1) := by decide +kernel
theorem dJ7_fill_53178_11 : decode cJ7_fill_53178 11 = .ok (.iload_n 2, 1) := by decide +kernel
theorem dJ7_fill_53178_12 : decode cJ7_fill_53178 12 = .ok (.iload_n 1, 1) := by decide +kernel
theorem dJ7_fill_53178_13 : decode cJ7_fill_53178 13 = .ok (.iastore, 1) := by decide +kernel
theorem dJ7_fill_53178_14 : decode cJ7_fill_53178 14 = .ok (.iinc 2 1, 3) := by decide +kernel
theorem dJ7_fill_53178_17 : decode cJ7_fill_53178 17 = .ok (.goto (-12), 3) := by decide +kernel
theorem dJ7_fill_53178_20 : decode cJ7_fill_53178 20 = .ok (.return_, 1) := by decide +kernel
