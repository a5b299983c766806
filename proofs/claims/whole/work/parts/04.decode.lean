theorem d_C_init_0 : decode b_C_init 0 = .ok (.aload_n 0, 1) := by decide +kernel
theorem d_C_init_1 : decode b_C_init 1 = .ok (.invokespecial 3, 3) := by decide +kernel
theorem d_C_init_4 : decode b_C_init 4 = .ok (.aload_n 0, 1) := by decide +kernel
theorem d_C_init_5 : decode b_C_init 5 = .ok (.bipush 6, 2) := by decide +kernel
theorem d_C_init_7 : decode b_C_init 7 = .ok (.anewarray 9, 3) := by decide +kernel
theorem d_C_init_10 : decode b_C_init 10 = .ok (.putfield 11, 3) := by decide +kernel
theorem d_C_init_13 : decode b_C_init 13 = .ok (.aload_n 0, 1) := by decide +kernel
theorem d_C_init_14 : decode b_C_init 14 = .ok (.iconst 0, 1) := by decide +kernel
theorem d_C_init_15 : decode b_C_init 15 = .ok (.putfield 15, 3) := by decide +kernel
theorem d_C_init_18 : decode b_C_init 18 = .ok (.aload_n 0, 1) := by decide +kernel
theorem d_C_init_19 : decode b_C_init 19 = .ok (.sipush 1440, 3) := by decide +kernel
theorem d_C_init_22 : decode b_C_init 22 = .ok (.newarray .int, 2) := by decide +kernel
theorem d_C_init_24 : decode b_C_init 24 = .ok (.putfield 19, 3) := by decide +kernel
theorem d_C_init_27 : decode b_C_init 27 = .ok (.aload_n 0, 1) := by decide +kernel
theorem d_C_init_28 : decode b_C_init 28 = .ok (.iconst 0, 1) := by decide +kernel
theorem d_C_init_29 : decode b_C_init 29 = .ok (.putfield 23, 3) := by decide +kernel
theorem d_C_init_32 : decode b_C_init 32 = .ok (.aload_n 0, 1) := by decide +kernel
theorem d_C_init_33 : decode b_C_init 33 = .ok (.iconst (-1), 1) := by decide +kernel
theorem d_C_init_34 : decode b_C_init 34 = .ok (.putfield 26, 3) := by decide +kernel
theorem d_C_init_37 : decode b_C_init 37 = .ok (.aload_n 0, 1) := by decide +kernel
theorem d_C_init_38 : decode b_C_init 38 = .ok (.ldc 29, 2) := by decide +kernel
theorem d_C_init_40 : decode b_C_init 40 = .ok (.putfield 30, 3) := by decide +kernel
theorem d_C_init_43 : decode b_C_init 43 = .ok (.aload_n 0, 1) := by decide +kernel
theorem d_C_init_44 : decode b_C_init 44 = .ok (.sipush 1440, 3) := by decide +kernel
theorem d_C_init_47 : decode b_C_init 47 = .ok (.newarray .int, 2) := by decide +kernel
theorem d_C_init_49 : decode b_C_init 49 = .ok (.putfield 33, 3) := by decide +kernel
theorem d_C_init_52 : decode b_C_init 52 = .ok (.aload_n 0, 1) := by decide +kernel
theorem d_C_init_53 : decode b_C_init 53 = .ok (.iconst 0, 1) := by decide +kernel
theorem d_C_init_54 : decode b_C_init 54 = .ok (.putfield 36, 3) := by decide +kernel
theorem d_C_init_57 : decode b_C_init 57 = .ok (.aload_n 0, 1) := by decide +kernel
theorem d_C_init_58 : decode b_C_init 58 = .ok (.iconst 1, 1) := by decide +kernel
theorem d_C_init_59 : decode b_C_init 59 = .ok (.putfield 40, 3) := by decide +kernel
theorem d_C_init_62 : decode b_C_init 62 = .ok (.aload_n 0, 1) := by decide +kernel
theorem d_C_init_63 : decode b_C_init 63 = .ok (.iconst 2, 1) := by decide +kernel
theorem d_C_init_64 : decode b_C_init 64 = .ok (.putfield 43, 3) := by decide +kernel
theorem d_C_init_67 : decode b_C_init 67 = .ok (.aload_n 0, 1) := by decide +kernel
theorem d_C_init_68 : decode b_C_init 68 = .ok (.bipush 24, 2) := by decide +kernel
theorem d_C_init_70 : decode b_C_init 70 = .ok (.newarray .int, 2) := by decide +kernel
theorem d_C_init_72 : decode b_C_init 72 = .ok (.putfield 46, 3) := by decide +kernel
theorem d_C_init_75 : decode b_C_init 75 = .ok (.aload_n 0, 1) := by decide +kernel
theorem d_C_init_76 : decode b_C_init 76 = .ok (.sipush 1024, 3) := by decide +kernel
theorem d_C_init_79 : decode b_C_init 79 = .ok (.newarray .int, 2) := by decide +kernel
theorem d_C_init_81 : decode b_C_init 81 = .ok (.putfield 49, 3) := by decide +kernel
theorem d_C_init_84 : decode b_C_init 84 = .ok (.aload_n 0, 1) := by decide +kernel
theorem d_C_init_85 : decode b_C_init 85 = .ok (.sipush 1024, 3) := by decide +kernel
theorem d_C_init_88 : decode b_C_init 88 = .ok (.newarray .long, 2) := by decide +kernel
theorem d_C_init_90 : decode b_C_init 90 = .ok (.putfield 52, 3) := by decide +kernel
theorem d_C_init_93 : decode b_C_init 93 = .ok (.return_, 1) := by decide +kernel
theorem d_C_zone_0 : decode b_C_zone 0 = .ok (.iload_n 1, 1) := by decide +kernel
theorem d_C_zone_1 : decode b_C_zone 1 = .ok (.iconst 1, 1) := by decide +kernel
theorem d_C_zone_2 : decode b_C_zone 2 = .ok (.sipush 1000, 3) := by decide +kernel
theorem d_C_zone_5 : decode b_C_zone 5 = .ok (.invokestatic 56, 3) := by decide +kernel
theorem d_C_zone_8 : decode b_C_zone 8 = .ok (.iload_n 2, 1) := by decide +kernel
theorem d_C_zone_9 : decode b_C_zone 9 = .ok (.iconst 1, 1) := by decide +kernel
theorem d_C_zone_10 : decode b_C_zone 10 = .ok (.sipush 1000, 3) := by decide +kernel
theorem d_C_zone_13 : decode b_C_zone 13 = .ok (.invokestatic 56, 3) := by decide +kernel
theorem d_C_zone_16 : decode b_C_zone 16 = .ok (.aload_n 0, 1) := by decide +kernel
theorem d_C_zone_17 : decode b_C_zone 17 = .ok (.getfield 15, 3) := by decide +kernel
theorem d_C_zone_20 : decode b_C_zone 20 = .ok (.bipush 6, 2) := by decide +kernel
theorem d_C_zone_22 : decode b_C_zone 22 = .ok (.if_icmp .lt 13, 3) := by decide +kernel
theorem d_C_zone_25 : decode b_C_zone 25 = .ok (.new 60, 3) := by decide +kernel
theorem d_C_zone_28 : decode b_C_zone 28 = .ok (.dup, 1) := by decide +kernel
theorem d_C_zone_29 : decode b_C_zone 29 = .ok (.ldc 62, 2) := by decide +kernel
theorem d_C_zone_31 : decode b_C_zone 31 = .ok (.invokespecial 64, 3) := by decide +kernel
theorem d_C_zone_34 : decode b_C_zone 34 = .ok (.athrow, 1) := by decide +kernel
theorem d_C_zone_35 : decode b_C_zone 35 = .ok (.aload_n 0, 1) := by decide +kernel
theorem d_C_zone_36 : decode b_C_zone 36 = .ok (.getfield 15, 3) := by decide +kernel
theorem d_C_zone_39 : decode b_C_zone 39 = .ok (.istore_n 3, 1) := by decide +kernel
theorem d_C_zone_40 : decode b_C_zone 40 = .ok (.aload_n 0, 1) := by decide +kernel
theorem d_C_zone_41 : decode b_C_zone 41 = .ok (.getfield 11, 3) := by decide +kernel
theorem d_C_zone_44 : decode b_C_zone 44 = .ok (.iload_n 3, 1) := by decide +kernel
theorem d_C_zone_45 : decode b_C_zone 45 = .ok (.new 9, 3) := by decide +kernel
theorem d_C_zone_48 : decode b_C_zone 48 = .ok (.dup, 1) := by decide +kernel
theorem d_C_zone_49 : decode b_C_zone 49 = .ok (.iload_n 1, 1) := by decide +kernel
theorem d_C_zone_50 : decode b_C_zone 50 = .ok (.iload_n 2, 1) := by decide +kernel
theorem d_C_zone_51 : decode b_C_zone 51 = .ok (.invokespecial 67, 3) := by decide +kernel
theorem d_C_zone_54 : decode b_C_zone 54 = .ok (.aastore, 1) := by decide +kernel
theorem d_C_zone_55 : decode b_C_zone 55 = .ok (.aload_n 0, 1) := by decide +kernel
theorem d_C_zone_56 : decode b_C_zone 56 = .ok (.dup, 1) := by decide +kernel
theorem d_C_zone_57 : decode b_C_zone 57 = .ok (.getfield 15, 3) := by decide +kernel
theorem d_C_zone_60 : decode b_C_zone 60 = .ok (.iconst 1, 1) := by decide +kernel
theorem d_C_zone_61 : decode b_C_zone 61 = .ok (.iadd, 1) := by decide +kernel
theorem d_C_zone_62 : decode b_C_zone 62 = .ok (.putfield 15, 3) := by decide +kernel
theorem d_C_zone_65 : decode b_C_zone 65 = .ok (.aload_n 0, 1) := by decide +kernel
theorem d_C_zone_66 : decode b_C_zone 66 = .ok (.iconst 0, 1) := by decide +kernel
theorem d_C_zone_67 : decode b_C_zone 67 = .ok (.putfield 36, 3) := by decide +kernel
theorem d_C_zone_70 : decode b_C_zone 70 = .ok (.iload_n 3, 1) := by decide +kernel
theorem d_C_zone_71 : decode b_C_zone 71 = .ok (.ireturn, 1) := by decide +kernel
theorem d_C_set_0 : decode b_C_set 0 = .ok (.aload_n 0, 1) := by decide +kernel
theorem d_C_set_1 : decode b_C_set 1 = .ok (.iload_n 1, 1) := by decide +kernel
theorem d_C_set_2 : decode b_C_set 2 = .ok (.invokevirtual 70, 3) := by decide +kernel
theorem d_C_set_5 : decode b_C_set 5 = .ok (.astore 4, 2) := by decide +kernel
theorem d_C_set_7 : decode b_C_set 7 = .ok (.iload_n 2, 1) := by decide +kernel
theorem d_C_set_8 : decode b_C_set 8 = .ok (.iconst 0, 1) := by decide +kernel
theorem d_C_set_9 : decode b_C_set 9 = .ok (.iconst 2, 1) := by decide +kernel
theorem d_C_set_10 : decode b_C_set 10 = .ok (.invokestatic 56, 3) := by decide +kernel
theorem d_C_set_13 : decode b_C_set 13 = .ok (.iload_n 2, 1) := by decide +kernel
theorem d_C_set_14 : decode b_C_set 14 = .ok (.ifCond .ne 29, 3) := by decide +kernel
theorem d_C_set_17 : decode b_C_set 17 = .ok (.iload_n 3, 1) := by decide +kernel
theorem d_C_set_18 : decode b_C_set 18 = .ok (.sipush (-10000), 3) := by decide +kernel
theorem d_C_set_21 : decode b_C_set 21 = .ok (.sipush 10000, 3) := by decide +kernel
theorem d_C_set_24 : decode b_C_set 24 = .ok (.invokestatic 56, 3) := by decide +kernel
theorem d_C_set_27 : decode b_C_set 27 = .ok (.aload 4, 2) := by decide +kernel
theorem d_C_set_29 : decode b_C_set 29 = .ok (.getfield 74, 3) := by decide +kernel
theorem d_C_set_32 : decode b_C_set 32 = .ok (.istore 5, 2) := by decide +kernel
theorem d_C_set_34 : decode b_C_set 34 = .ok (.aload 4, 2) := by decide +kernel
theorem d_C_set_36 : decode b_C_set 36 = .ok (.iload_n 3, 1) := by decide +kernel
theorem d_C_set_37 : decode b_C_set 37 = .ok (.putfield 74, 3) := by decide +kernel
theorem d_C_set_40 : decode b_C_set 40 = .ok (.goto 51, 3) := by decide +kernel
theorem d_C_set_43 : decode b_C_set 43 = .ok (.iload_n 2, 1) := by decide +kernel
theorem d_C_set_44 : decode b_C_set 44 = .ok (.iconst 1, 1) := by decide +kernel
theorem d_C_set_45 : decode b_C_set 45 = .ok (.if_icmp .ne 26, 3) := by decide +kernel
theorem d_C_set_48 : decode b_C_set 48 = .ok (.iload_n 3, 1) := by decide +kernel
theorem d_C_set_49 : decode b_C_set 49 = .ok (.iconst 0, 1) := by decide +kernel
theorem d_C_set_50 : decode b_C_set 50 = .ok (.ldc 29, 2) := by decide +kernel
theorem d_C_set_52 : decode b_C_set 52 = .ok (.invokestatic 56, 3) := by decide +kernel
theorem d_C_set_55 : decode b_C_set 55 = .ok (.aload 4, 2) := by decide +kernel
theorem d_C_set_57 : decode b_C_set 57 = .ok (.getfield 77, 3) := by decide +kernel
theorem d_C_set_60 : decode b_C_set 60 = .ok (.istore 5, 2) := by decide +kernel
theorem d_C_set_62 : decode b_C_set 62 = .ok (.aload 4, 2) := by decide +kernel
theorem d_C_set_64 : decode b_C_set 64 = .ok (.iload_n 3, 1) := by decide +kernel
theorem d_C_set_65 : decode b_C_set 65 = .ok (.putfield 77, 3) := by decide +kernel
theorem d_C_set_68 : decode b_C_set 68 = .ok (.goto 23, 3) := by decide +kernel
theorem d_C_set_71 : decode b_C_set 71 = .ok (.iload_n 3, 1) := by decide +kernel
theorem d_C_set_72 : decode b_C_set 72 = .ok (.iconst 0, 1) := by decide +kernel
theorem d_C_set_73 : decode b_C_set 73 = .ok (.bipush 9, 2) := by decide +kernel
theorem d_C_set_75 : decode b_C_set 75 = .ok (.invokestatic 56, 3) := by decide +kernel
theorem d_C_set_78 : decode b_C_set 78 = .ok (.aload 4, 2) := by decide +kernel
theorem d_C_set_80 : decode b_C_set 80 = .ok (.getfield 80, 3) := by decide +kernel
theorem d_C_set_83 : decode b_C_set 83 = .ok (.istore 5, 2) := by decide +kernel
theorem d_C_set_85 : decode b_C_set 85 = .ok (.aload 4, 2) := by decide +kernel
theorem d_C_set_87 : decode b_C_set 87 = .ok (.iload_n 3, 1) := by decide +kernel
theorem d_C_set_88 : decode b_C_set 88 = .ok (.putfield 80, 3) := by decide +kernel
theorem d_C_set_91 : decode b_C_set 91 = .ok (.aload_n 0, 1) := by decide +kernel
theorem d_C_set_92 : decode b_C_set 92 = .ok (.iconst 0, 1) := by decide +kernel
theorem d_C_set_93 : decode b_C_set 93 = .ok (.putfield 36, 3) := by decide +kernel
theorem d_C_set_96 : decode b_C_set 96 = .ok (.iload 5, 2) := by decide +kernel
theorem d_C_set_98 : decode b_C_set 98 = .ok (.ireturn, 1) := by decide +kernel
theorem d_C_want_0 : decode b_C_want 0 = .ok (.aload_n 0, 1) := by decide +kernel
theorem d_C_want_1 : decode b_C_want 1 = .ok (.iload_n 1, 1) := by decide +kernel
theorem d_C_want_2 : decode b_C_want 2 = .ok (.invokevirtual 70, 3) := by decide +kernel
theorem d_C_want_5 : decode b_C_want 5 = .ok (.astore 4, 2) := by decide +kernel
theorem d_C_want_7 : decode b_C_want 7 = .ok (.iload_n 2, 1) := by decide +kernel
theorem d_C_want_8 : decode b_C_want 8 = .ok (.iconst (-1), 1) := by decide +kernel
theorem d_C_want_9 : decode b_C_want 9 = .ok (.sipush 1439, 3) := by decide +kernel
theorem d_C_want_12 : decode b_C_want 12 = .ok (.invokestatic 56, 3) := by decide +kernel
theorem d_C_want_15 : decode b_C_want 15 = .ok (.iload_n 3, 1) := by decide +kernel
theorem d_C_want_16 : decode b_C_want 16 = .ok (.sipush (-10000), 3) := by decide +kernel
theorem d_C_want_19 : decode b_C_want 19 = .ok (.sipush 10000, 3) := by decide +kernel
theorem d_C_want_22 : decode b_C_want 22 = .ok (.invokestatic 56, 3) := by decide +kernel
theorem d_C_want_25 : decode b_C_want 25 = .ok (.aload 4, 2) := by decide +kernel
theorem d_C_want_27 : decode b_C_want 27 = .ok (.iload_n 2, 1) := by decide +kernel
theorem d_C_want_28 : decode b_C_want 28 = .ok (.putfield 83, 3) := by decide +kernel
theorem d_C_want_31 : decode b_C_want 31 = .ok (.aload 4, 2) := by decide +kernel
theorem d_C_want_33 : decode b_C_want 33 = .ok (.iload_n 3, 1) := by decide +kernel
theorem d_C_want_34 : decode b_C_want 34 = .ok (.putfield 86, 3) := by decide +kernel
theorem d_C_want_37 : decode b_C_want 37 = .ok (.aload_n 0, 1) := by decide +kernel
theorem d_C_want_38 : decode b_C_want 38 = .ok (.iconst 0, 1) := by decide +kernel
theorem d_C_want_39 : decode b_C_want 39 = .ok (.putfield 36, 3) := by decide +kernel
theorem d_C_want_42 : decode b_C_want 42 = .ok (.return_, 1) := by decide +kernel
theorem d_C_outside_0 : decode b_C_outside 0 = .ok (.iload_n 1, 1) := by decide +kernel
theorem d_C_outside_1 : decode b_C_outside 1 = .ok (.iconst 0, 1) := by decide +kernel
theorem d_C_outside_2 : decode b_C_outside 2 = .ok (.sipush 1439, 3) := by decide +kernel
theorem d_C_outside_5 : decode b_C_outside 5 = .ok (.invokestatic 56, 3) := by decide +kernel
theorem d_C_outside_8 : decode b_C_outside 8 = .ok (.iload_n 2, 1) := by decide +kernel
theorem d_C_outside_9 : decode b_C_outside 9 = .ok (.sipush (-10000), 3) := by decide +kernel
theorem d_C_outside_12 : decode b_C_outside 12 = .ok (.sipush 10000, 3) := by decide +kernel
theorem d_C_outside_15 : decode b_C_outside 15 = .ok (.invokestatic 56, 3) := by decide +kernel
theorem d_C_outside_18 : decode b_C_outside 18 = .ok (.aload_n 0, 1) := by decide +kernel
theorem d_C_outside_19 : decode b_C_outside 19 = .ok (.getfield 23, 3) := by decide +kernel
theorem d_C_outside_22 : decode b_C_outside 22 = .ok (.bipush 24, 2) := by decide +kernel
theorem d_C_outside_24 : decode b_C_outside 24 = .ok (.if_icmp .lt 13, 3) := by decide +kernel
theorem d_C_outside_27 : decode b_C_outside 27 = .ok (.new 60, 3) := by decide +kernel
theorem d_C_outside_30 : decode b_C_outside 30 = .ok (.dup, 1) := by decide +kernel
theorem d_C_outside_31 : decode b_C_outside 31 = .ok (.ldc 89, 2) := by decide +kernel
theorem d_C_outside_33 : decode b_C_outside 33 = .ok (.invokespecial 64, 3) := by decide +kernel
theorem d_C_outside_36 : decode b_C_outside 36 = .ok (.athrow, 1) := by decide +kernel
theorem d_C_outside_37 : decode b_C_outside 37 = .ok (.iload_n 1, 1) := by decide +kernel
theorem d_C_outside_38 : decode b_C_outside 38 = .ok (.aload_n 0, 1) := by decide +kernel
theorem d_C_outside_39 : decode b_C_outside 39 = .ok (.getfield 26, 3) := by decide +kernel
theorem d_C_outside_42 : decode b_C_outside 42 = .ok (.if_icmp .gt 13, 3) := by decide +kernel
theorem d_C_outside_45 : decode b_C_outside 45 = .ok (.new 60, 3) := by decide +kernel
theorem d_C_outside_48 : decode b_C_outside 48 = .ok (.dup, 1) := by decide +kernel
theorem d_C_outside_49 : decode b_C_outside 49 = .ok (.ldc 91, 2) := by decide +kernel
theorem d_C_outside_51 : decode b_C_outside 51 = .ok (.invokespecial 64, 3) := by decide +kernel
theorem d_C_outside_54 : decode b_C_outside 54 = .ok (.athrow, 1) := by decide +kernel
theorem d_C_outside_55 : decode b_C_outside 55 = .ok (.iload_n 1, 1) := by decide +kernel
theorem d_C_outside_56 : decode b_C_outside 56 = .ok (.istore_n 3, 1) := by decide +kernel
theorem d_C_outside_57 : decode b_C_outside 57 = .ok (.iload_n 3, 1) := by decide +kernel
theorem d_C_outside_58 : decode b_C_outside 58 = .ok (.sipush 1440, 3) := by decide +kernel
theorem d_C_outside_61 : decode b_C_outside 61 = .ok (.if_icmp .ge 16, 3) := by decide +kernel
theorem d_C_outside_64 : decode b_C_outside 64 = .ok (.aload_n 0, 1) := by decide +kernel
theorem d_C_outside_65 : decode b_C_outside 65 = .ok (.getfield 19, 3) := by decide +kernel
theorem d_C_outside_68 : decode b_C_outside 68 = .ok (.iload_n 3, 1) := by decide +kernel
theorem d_C_outside_69 : decode b_C_outside 69 = .ok (.iload_n 2, 1) := by decide +kernel
theorem d_C_outside_70 : decode b_C_outside 70 = .ok (.iastore, 1) := by decide +kernel
theorem d_C_outside_71 : decode b_C_outside 71 = .ok (.iinc 3 1, 3) := by decide +kernel
theorem d_C_outside_74 : decode b_C_outside 74 = .ok (.goto (-17), 3) := by decide +kernel
theorem d_C_outside_77 : decode b_C_outside 77 = .ok (.aload_n 0, 1) := by decide +kernel
theorem d_C_outside_78 : decode b_C_outside 78 = .ok (.iload_n 1, 1) := by decide +kernel
theorem d_C_outside_79 : decode b_C_outside 79 = .ok (.putfield 26, 3) := by decide +kernel
theorem d_C_outside_82 : decode b_C_outside 82 = .ok (.aload_n 0, 1) := by decide +kernel
theorem d_C_outside_83 : decode b_C_outside 83 = .ok (.dup, 1) := by decide +kernel
theorem d_C_outside_84 : decode b_C_outside 84 = .ok (.getfield 23, 3) := by decide +kernel
theorem d_C_outside_87 : decode b_C_outside 87 = .ok (.iconst 1, 1) := by decide +kernel
theorem d_C_outside_88 : decode b_C_outside 88 = .ok (.iadd, 1) := by decide +kernel
theorem d_C_outside_89 : decode b_C_outside 89 = .ok (.putfield 23, 3) := by decide +kernel
theorem d_C_outside_92 : decode b_C_outside 92 = .ok (.aload_n 0, 1) := by decide +kernel
theorem d_C_outside_93 : decode b_C_outside 93 = .ok (.iconst 0, 1) := by decide +kernel
theorem d_C_outside_94 : decode b_C_outside 94 = .ok (.putfield 36, 3) := by decide +kernel
theorem d_C_outside_97 : decode b_C_outside 97 = .ok (.aload_n 0, 1) := by decide +kernel
theorem d_C_outside_98 : decode b_C_outside 98 = .ok (.getfield 23, 3) := by decide +kernel
theorem d_C_outside_101 : decode b_C_outside 101 = .ok (.ireturn, 1) := by decide +kernel
theorem d_C_machine_0 : decode b_C_machine 0 = .ok (.iload_n 1, 1) := by decide +kernel
theorem d_C_machine_1 : decode b_C_machine 1 = .ok (.iconst 0, 1) := by decide +kernel
theorem d_C_machine_2 : decode b_C_machine 2 = .ok (.ldc 93, 2) := by decide +kernel
theorem d_C_machine_4 : decode b_C_machine 4 = .ok (.invokestatic 56, 3) := by decide +kernel
theorem d_C_machine_7 : decode b_C_machine 7 = .ok (.aload_n 0, 1) := by decide +kernel
theorem d_C_machine_8 : decode b_C_machine 8 = .ok (.getfield 30, 3) := by decide +kernel
theorem d_C_machine_11 : decode b_C_machine 11 = .ok (.istore_n 2, 1) := by decide +kernel
theorem d_C_machine_12 : decode b_C_machine 12 = .ok (.aload_n 0, 1) := by decide +kernel
theorem d_C_machine_13 : decode b_C_machine 13 = .ok (.iload_n 1, 1) := by decide +kernel
theorem d_C_machine_14 : decode b_C_machine 14 = .ok (.putfield 30, 3) := by decide +kernel
theorem d_C_machine_17 : decode b_C_machine 17 = .ok (.aload_n 0, 1) := by decide +kernel
theorem d_C_machine_18 : decode b_C_machine 18 = .ok (.iconst 0, 1) := by decide +kernel
theorem d_C_machine_19 : decode b_C_machine 19 = .ok (.putfield 36, 3) := by decide +kernel
theorem d_C_machine_22 : decode b_C_machine 22 = .ok (.iload_n 2, 1) := by decide +kernel
theorem d_C_machine_23 : decode b_C_machine 23 = .ok (.ireturn, 1) := by decide +kernel
theorem d_C_start_0 : decode b_C_start 0 = .ok (.aload_n 0, 1) := by decide +kernel
theorem d_C_start_1 : decode b_C_start 1 = .ok (.iload_n 1, 1) := by decide +kernel
theorem d_C_start_2 : decode b_C_start 2 = .ok (.invokevirtual 94, 3) := by decide +kernel
theorem d_C_start_5 : decode b_C_start 5 = .ok (.getfield 97, 3) := by decide +kernel
theorem d_C_start_8 : decode b_C_start 8 = .ok (.ireturn, 1) := by decide +kernel
theorem d_C_late_0 : decode b_C_late 0 = .ok (.aload_n 0, 1) := by decide +kernel
theorem d_C_late_1 : decode b_C_late 1 = .ok (.iload_n 1, 1) := by decide +kernel
theorem d_C_late_2 : decode b_C_late 2 = .ok (.invokevirtual 94, 3) := by decide +kernel
theorem d_C_late_5 : decode b_C_late 5 = .ok (.astore_n 2, 1) := by decide +kernel
theorem d_C_late_6 : decode b_C_late 6 = .ok (.aload_n 2, 1) := by decide +kernel
theorem d_C_late_7 : decode b_C_late 7 = .ok (.invokevirtual 100, 3) := by decide +kernel
theorem d_C_late_10 : decode b_C_late 10 = .ok (.ifCond .eq 23, 3) := by decide +kernel
theorem d_C_late_13 : decode b_C_late 13 = .ok (.aload_n 2, 1) := by decide +kernel
theorem d_C_late_14 : decode b_C_late 14 = .ok (.getfield 104, 3) := by decide +kernel
theorem d_C_late_17 : decode b_C_late 17 = .ok (.aload_n 2, 1) := by decide +kernel
theorem d_C_late_18 : decode b_C_late 18 = .ok (.getfield 83, 3) := by decide +kernel
theorem d_C_late_21 : decode b_C_late 21 = .ok (.iaload, 1) := by decide +kernel
theorem d_C_late_22 : decode b_C_late 22 = .ok (.aload_n 2, 1) := by decide +kernel
theorem d_C_late_23 : decode b_C_late 23 = .ok (.getfield 86, 3) := by decide +kernel
theorem d_C_late_26 : decode b_C_late 26 = .ok (.if_icmp .ge 7, 3) := by decide +kernel
theorem d_C_late_29 : decode b_C_late 29 = .ok (.iconst 1, 1) := by decide +kernel
theorem d_C_late_30 : decode b_C_late 30 = .ok (.goto 4, 3) := by decide +kernel
theorem d_C_late_33 : decode b_C_late 33 = .ok (.iconst 0, 1) := by decide +kernel
theorem d_C_late_34 : decode b_C_late 34 = .ok (.ireturn, 1) := by decide +kernel
theorem d_C_at_0 : decode b_C_at 0 = .ok (.iload_n 2, 1) := by decide +kernel
theorem d_C_at_1 : decode b_C_at 1 = .ok (.iconst 0, 1) := by decide +kernel
theorem d_C_at_2 : decode b_C_at 2 = .ok (.sipush 1440, 3) := by decide +kernel
theorem d_C_at_5 : decode b_C_at 5 = .ok (.invokestatic 56, 3) := by decide +kernel
theorem d_C_at_8 : decode b_C_at 8 = .ok (.aload_n 0, 1) := by decide +kernel
theorem d_C_at_9 : decode b_C_at 9 = .ok (.iload_n 1, 1) := by decide +kernel
theorem d_C_at_10 : decode b_C_at 10 = .ok (.invokevirtual 94, 3) := by decide +kernel
theorem d_C_at_13 : decode b_C_at 13 = .ok (.getfield 104, 3) := by decide +kernel
theorem d_C_at_16 : decode b_C_at 16 = .ok (.iload_n 2, 1) := by decide +kernel
theorem d_C_at_17 : decode b_C_at 17 = .ok (.iaload, 1) := by decide +kernel
theorem d_C_at_18 : decode b_C_at 18 = .ok (.ireturn, 1) := by decide +kernel
theorem d_C_used_0 : decode b_C_used 0 = .ok (.iload_n 1, 1) := by decide +kernel
theorem d_C_used_1 : decode b_C_used 1 = .ok (.iconst 0, 1) := by decide +kernel
theorem d_C_used_2 : decode b_C_used 2 = .ok (.sipush 1439, 3) := by decide +kernel
theorem d_C_used_5 : decode b_C_used 5 = .ok (.invokestatic 56, 3) := by decide +kernel
theorem d_C_used_8 : decode b_C_used 8 = .ok (.aload_n 0, 1) := by decide +kernel
theorem d_C_used_9 : decode b_C_used 9 = .ok (.invokevirtual 107, 3) := by decide +kernel
theorem d_C_used_12 : decode b_C_used 12 = .ok (.aload_n 0, 1) := by decide +kernel
theorem d_C_used_13 : decode b_C_used 13 = .ok (.getfield 33, 3) := by decide +kernel
theorem d_C_used_16 : decode b_C_used 16 = .ok (.iload_n 1, 1) := by decide +kernel
theorem d_C_used_17 : decode b_C_used 17 = .ok (.iaload, 1) := by decide +kernel
theorem d_C_used_18 : decode b_C_used 18 = .ok (.ireturn, 1) := by decide +kernel
theorem d_C_cold_0 : decode b_C_cold 0 = .ok (.aload_n 0, 1) := by decide +kernel
theorem d_C_cold_1 : decode b_C_cold 1 = .ok (.iload_n 1, 1) := by decide +kernel
theorem d_C_cold_2 : decode b_C_cold 2 = .ok (.invokevirtual 94, 3) := by decide +kernel
theorem d_C_cold_5 : decode b_C_cold 5 = .ok (.astore_n 2, 1) := by decide +kernel
theorem d_C_cold_6 : decode b_C_cold 6 = .ok (.aload_n 2, 1) := by decide +kernel
theorem d_C_cold_7 : decode b_C_cold 7 = .ok (.invokevirtual 100, 3) := by decide +kernel
theorem d_C_cold_10 : decode b_C_cold 10 = .ok (.ifCond .ne 5, 3) := by decide +kernel
theorem d_C_cold_13 : decode b_C_cold 13 = .ok (.iconst 0, 1) := by decide +kernel
theorem d_C_cold_14 : decode b_C_cold 14 = .ok (.ireturn, 1) := by decide +kernel
theorem d_C_cold_15 : decode b_C_cold 15 = .ok (.iconst 0, 1) := by decide +kernel
theorem d_C_cold_16 : decode b_C_cold 16 = .ok (.istore_n 3, 1) := by decide +kernel
theorem d_C_cold_17 : decode b_C_cold 17 = .ok (.aload_n 2, 1) := by decide +kernel
theorem d_C_cold_18 : decode b_C_cold 18 = .ok (.getfield 83, 3) := by decide +kernel
theorem d_C_cold_21 : decode b_C_cold 21 = .ok (.istore 4, 2) := by decide +kernel
theorem d_C_cold_23 : decode b_C_cold 23 = .ok (.iload 4, 2) := by decide +kernel
theorem d_C_cold_25 : decode b_C_cold 25 = .ok (.sipush 1440, 3) := by decide +kernel
theorem d_C_cold_28 : decode b_C_cold 28 = .ok (.if_icmp .ge 26, 3) := by decide +kernel
theorem d_C_cold_31 : decode b_C_cold 31 = .ok (.aload_n 2, 1) := by decide +kernel
theorem d_C_cold_32 : decode b_C_cold 32 = .ok (.getfield 104, 3) := by decide +kernel
theorem d_C_cold_35 : decode b_C_cold 35 = .ok (.iload 4, 2) := by decide +kernel
theorem d_C_cold_37 : decode b_C_cold 37 = .ok (.iaload, 1) := by decide +kernel
theorem d_C_cold_38 : decode b_C_cold 38 = .ok (.aload_n 2, 1) := by decide +kernel
theorem d_C_cold_39 : decode b_C_cold 39 = .ok (.getfield 86, 3) := by decide +kernel
theorem d_C_cold_42 : decode b_C_cold 42 = .ok (.if_icmp .ge 6, 3) := by decide +kernel
theorem d_C_cold_45 : decode b_C_cold 45 = .ok (.iinc 3 1, 3) := by decide +kernel
theorem d_C_cold_48 : decode b_C_cold 48 = .ok (.iinc 4 1, 3) := by decide +kernel
theorem d_C_cold_51 : decode b_C_cold 51 = .ok (.goto (-28), 3) := by decide +kernel
theorem d_C_cold_54 : decode b_C_cold 54 = .ok (.iload_n 3, 1) := by decide +kernel
theorem d_C_cold_55 : decode b_C_cold 55 = .ok (.ireturn, 1) := by decide +kernel
theorem d_C_fade_0 : decode b_C_fade 0 = .ok (.iload_n 2, 1) := by decide +kernel
theorem d_C_fade_1 : decode b_C_fade 1 = .ok (.iconst 1, 1) := by decide +kernel
theorem d_C_fade_2 : decode b_C_fade 2 = .ok (.bipush 100, 2) := by decide +kernel
theorem d_C_fade_4 : decode b_C_fade 4 = .ok (.invokestatic 56, 3) := by decide +kernel
theorem d_C_fade_7 : decode b_C_fade 7 = .ok (.iload_n 1, 1) := by decide +kernel
theorem d_C_fade_8 : decode b_C_fade 8 = .ok (.iconst 0, 1) := by decide +kernel
theorem d_C_fade_9 : decode b_C_fade 9 = .ok (.iload_n 2, 1) := by decide +kernel
theorem d_C_fade_10 : decode b_C_fade 10 = .ok (.invokestatic 56, 3) := by decide +kernel
theorem d_C_fade_13 : decode b_C_fade 13 = .ok (.aload_n 0, 1) := by decide +kernel
theorem d_C_fade_14 : decode b_C_fade 14 = .ok (.iload_n 1, 1) := by decide +kernel
theorem d_C_fade_15 : decode b_C_fade 15 = .ok (.putfield 40, 3) := by decide +kernel
theorem d_C_fade_18 : decode b_C_fade 18 = .ok (.aload_n 0, 1) := by decide +kernel
theorem d_C_fade_19 : decode b_C_fade 19 = .ok (.iload_n 2, 1) := by decide +kernel
theorem d_C_fade_20 : decode b_C_fade 20 = .ok (.putfield 43, 3) := by decide +kernel
theorem d_C_fade_23 : decode b_C_fade 23 = .ok (.return_, 1) := by decide +kernel
theorem d_C_day_0 : decode b_C_day 0 = .ok (.aload_n 0, 1) := by decide +kernel
theorem d_C_day_1 : decode b_C_day 1 = .ok (.iload_n 1, 1) := by decide +kernel
theorem d_C_day_2 : decode b_C_day 2 = .ok (.invokevirtual 70, 3) := by decide +kernel
theorem d_C_day_5 : decode b_C_day 5 = .ok (.astore_n 3, 1) := by decide +kernel
theorem d_C_day_6 : decode b_C_day 6 = .ok (.iload_n 2, 1) := by decide +kernel
theorem d_C_day_7 : decode b_C_day 7 = .ok (.sipush (-1440), 3) := by decide +kernel
theorem d_C_day_10 : decode b_C_day 10 = .ok (.sipush 1440, 3) := by decide +kernel
theorem d_C_day_13 : decode b_C_day 13 = .ok (.invokestatic 56, 3) := by decide +kernel
theorem d_C_day_16 : decode b_C_day 16 = .ok (.aload_n 3, 1) := by decide +kernel
theorem d_C_day_17 : decode b_C_day 17 = .ok (.getfield 110, 3) := by decide +kernel
theorem d_C_day_20 : decode b_C_day 20 = .ok (.iload_n 2, 1) := by decide +kernel
theorem d_C_day_21 : decode b_C_day 21 = .ok (.aload_n 0, 1) := by decide +kernel
theorem d_C_day_22 : decode b_C_day 22 = .ok (.getfield 40, 3) := by decide +kernel
theorem d_C_day_25 : decode b_C_day 25 = .ok (.aload_n 0, 1) := by decide +kernel
theorem d_C_day_26 : decode b_C_day 26 = .ok (.getfield 43, 3) := by decide +kernel
theorem d_C_day_29 : decode b_C_day 29 = .ok (.invokevirtual 114, 3) := by decide +kernel
theorem d_C_day_32 : decode b_C_day 32 = .ok (.return_, 1) := by decide +kernel
theorem d_C_lesson_0 : decode b_C_lesson 0 = .ok (.aload_n 0, 1) := by decide +kernel
theorem d_C_lesson_1 : decode b_C_lesson 1 = .ok (.iload_n 1, 1) := by decide +kernel
theorem d_C_lesson_2 : decode b_C_lesson 2 = .ok (.invokevirtual 70, 3) := by decide +kernel
theorem d_C_lesson_5 : decode b_C_lesson 5 = .ok (.astore_n 3, 1) := by decide +kernel
theorem d_C_lesson_6 : decode b_C_lesson 6 = .ok (.iload_n 2, 1) := by decide +kernel
theorem d_C_lesson_7 : decode b_C_lesson 7 = .ok (.iconst 0, 1) := by decide +kernel
theorem d_C_lesson_8 : decode b_C_lesson 8 = .ok (.iconst 1, 1) := by decide +kernel
theorem d_C_lesson_9 : decode b_C_lesson 9 = .ok (.invokestatic 56, 3) := by decide +kernel
theorem d_C_lesson_12 : decode b_C_lesson 12 = .ok (.iload_n 2, 1) := by decide +kernel
theorem d_C_lesson_13 : decode b_C_lesson 13 = .ok (.ifCond .ne 13, 3) := by decide +kernel
theorem d_C_lesson_16 : decode b_C_lesson 16 = .ok (.aload_n 3, 1) := by decide +kernel
theorem d_C_lesson_17 : decode b_C_lesson 17 = .ok (.getfield 110, 3) := by decide +kernel
theorem d_C_lesson_20 : decode b_C_lesson 20 = .ok (.getfield 119, 3) := by decide +kernel
theorem d_C_lesson_23 : decode b_C_lesson 23 = .ok (.goto 10, 3) := by decide +kernel
theorem d_C_lesson_26 : decode b_C_lesson 26 = .ok (.aload_n 3, 1) := by decide +kernel
theorem d_C_lesson_27 : decode b_C_lesson 27 = .ok (.getfield 110, 3) := by decide +kernel
theorem d_C_lesson_30 : decode b_C_lesson 30 = .ok (.getfield 123, 3) := by decide +kernel
theorem d_C_lesson_33 : decode b_C_lesson 33 = .ok (.lreturn, 1) := by decide +kernel
theorem d_C_taught_0 : decode b_C_taught 0 = .ok (.aload_n 0, 1) := by decide +kernel
theorem d_C_taught_1 : decode b_C_taught 1 = .ok (.iload_n 1, 1) := by decide +kernel
theorem d_C_taught_2 : decode b_C_taught 2 = .ok (.invokevirtual 94, 3) := by decide +kernel
theorem d_C_taught_5 : decode b_C_taught 5 = .ok (.astore_n 2, 1) := by decide +kernel
theorem d_C_taught_6 : decode b_C_taught 6 = .ok (.aload_n 2, 1) := by decide +kernel
theorem d_C_taught_7 : decode b_C_taught 7 = .ok (.invokevirtual 100, 3) := by decide +kernel
theorem d_C_taught_10 : decode b_C_taught 10 = .ok (.ifCond .ne 5, 3) := by decide +kernel
theorem d_C_taught_13 : decode b_C_taught 13 = .ok (.iconst (-1), 1) := by decide +kernel
theorem d_C_taught_14 : decode b_C_taught 14 = .ok (.ireturn, 1) := by decide +kernel
theorem d_C_taught_15 : decode b_C_taught 15 = .ok (.aload_n 2, 1) := by decide +kernel
theorem d_C_taught_16 : decode b_C_taught 16 = .ok (.getfield 97, 3) := by decide +kernel
theorem d_C_taught_19 : decode b_C_taught 19 = .ok (.aload_n 2, 1) := by decide +kernel
theorem d_C_taught_20 : decode b_C_taught 20 = .ok (.getfield 110, 3) := by decide +kernel
theorem d_C_taught_23 : decode b_C_taught 23 = .ok (.invokevirtual 126, 3) := by decide +kernel
theorem d_C_taught_26 : decode b_C_taught 26 = .ok (.isub, 1) := by decide +kernel
theorem d_C_taught_27 : decode b_C_taught 27 = .ok (.istore_n 3, 1) := by decide +kernel
theorem d_C_taught_28 : decode b_C_taught 28 = .ok (.iconst 0, 1) := by decide +kernel
theorem d_C_taught_29 : decode b_C_taught 29 = .ok (.iload_n 3, 1) := by decide +kernel
theorem d_C_taught_30 : decode b_C_taught 30 = .ok (.sipush 1439, 3) := by decide +kernel
theorem d_C_taught_33 : decode b_C_taught 33 = .ok (.invokestatic 130, 3) := by decide +kernel
theorem d_C_taught_36 : decode b_C_taught 36 = .ok (.invokestatic 136, 3) := by decide +kernel
theorem d_C_taught_39 : decode b_C_taught 39 = .ok (.ireturn, 1) := by decide +kernel
theorem d_C_price_0 : decode b_C_price 0 = .ok (.iload_n 1, 1) := by decide +kernel
theorem d_C_price_1 : decode b_C_price 1 = .ok (.iconst 0, 1) := by decide +kernel
theorem d_C_price_2 : decode b_C_price 2 = .ok (.bipush 23, 2) := by decide +kernel
theorem d_C_price_4 : decode b_C_price 4 = .ok (.invokestatic 56, 3) := by decide +kernel
theorem d_C_price_7 : decode b_C_price 7 = .ok (.iload_n 2, 1) := by decide +kernel
theorem d_C_price_8 : decode b_C_price 8 = .ok (.iconst 0, 1) := by decide +kernel
theorem d_C_price_9 : decode b_C_price 9 = .ok (.sipush 1000, 3) := by decide +kernel
theorem d_C_price_12 : decode b_C_price 12 = .ok (.invokestatic 56, 3) := by decide +kernel
theorem d_C_price_15 : decode b_C_price 15 = .ok (.aload_n 0, 1) := by decide +kernel
theorem d_C_price_16 : decode b_C_price 16 = .ok (.getfield 46, 3) := by decide +kernel
theorem d_C_price_19 : decode b_C_price 19 = .ok (.iload_n 1, 1) := by decide +kernel
theorem d_C_price_20 : decode b_C_price 20 = .ok (.iaload, 1) := by decide +kernel
theorem d_C_price_21 : decode b_C_price 21 = .ok (.istore_n 3, 1) := by decide +kernel
theorem d_C_price_22 : decode b_C_price 22 = .ok (.aload_n 0, 1) := by decide +kernel
theorem d_C_price_23 : decode b_C_price 23 = .ok (.getfield 46, 3) := by decide +kernel
theorem d_C_price_26 : decode b_C_price 26 = .ok (.iload_n 1, 1) := by decide +kernel
theorem d_C_price_27 : decode b_C_price 27 = .ok (.iload_n 2, 1) := by decide +kernel
theorem d_C_price_28 : decode b_C_price 28 = .ok (.iastore, 1) := by decide +kernel
theorem d_C_price_29 : decode b_C_price 29 = .ok (.iload_n 3, 1) := by decide +kernel
theorem d_C_price_30 : decode b_C_price 30 = .ok (.ireturn, 1) := by decide +kernel
theorem d_C_cheapest_0 : decode b_C_cheapest 0 = .ok (.aload_n 0, 1) := by decide +kernel
theorem d_C_cheapest_1 : decode b_C_cheapest 1 = .ok (.iload_n 1, 1) := by decide +kernel
theorem d_C_cheapest_2 : decode b_C_cheapest 2 = .ok (.invokevirtual 70, 3) := by decide +kernel
theorem d_C_cheapest_5 : decode b_C_cheapest 5 = .ok (.astore 4, 2) := by decide +kernel
theorem d_C_cheapest_7 : decode b_C_cheapest 7 = .ok (.iload_n 2, 1) := by decide +kernel
theorem d_C_cheapest_8 : decode b_C_cheapest 8 = .ok (.iload_n 3, 1) := by decide +kernel
theorem d_C_cheapest_9 : decode b_C_cheapest 9 = .ok (.invokestatic 139, 3) := by decide +kernel
theorem d_C_cheapest_12 : decode b_C_cheapest 12 = .ok (.aload 4, 2) := by decide +kernel
theorem d_C_cheapest_14 : decode b_C_cheapest 14 = .ok (.invokestatic 142, 3) := by decide +kernel
theorem d_C_cheapest_17 : decode b_C_cheapest 17 = .ok (.aload_n 0, 1) := by decide +kernel
theorem d_C_cheapest_18 : decode b_C_cheapest 18 = .ok (.aload 4, 2) := by decide +kernel
theorem d_C_cheapest_20 : decode b_C_cheapest 20 = .ok (.iload_n 2, 1) := by decide +kernel
theorem d_C_cheapest_21 : decode b_C_cheapest 21 = .ok (.iload_n 3, 1) := by decide +kernel
theorem d_C_cheapest_22 : decode b_C_cheapest 22 = .ok (.invokevirtual 146, 3) := by decide +kernel
theorem d_C_cheapest_25 : decode b_C_cheapest 25 = .ok (.iconst (-1), 1) := by decide +kernel
theorem d_C_cheapest_26 : decode b_C_cheapest 26 = .ok (.istore 5, 2) := by decide +kernel
theorem d_C_cheapest_28 : decode b_C_cheapest 28 = .ok (.iconst 0, 1) := by decide +kernel
theorem d_C_cheapest_29 : decode b_C_cheapest 29 = .ok (.istore 6, 2) := by decide +kernel
theorem d_C_cheapest_31 : decode b_C_cheapest 31 = .ok (.iload 6, 2) := by decide +kernel
theorem d_C_cheapest_33 : decode b_C_cheapest 33 = .ok (.iconst 1, 1) := by decide +kernel
theorem d_C_cheapest_34 : decode b_C_cheapest 34 = .ok (.iload_n 2, 1) := by decide +kernel
theorem d_C_cheapest_35 : decode b_C_cheapest 35 = .ok (.ishl, 1) := by decide +kernel
theorem d_C_cheapest_36 : decode b_C_cheapest 36 = .ok (.if_icmp .ge 64, 3) := by decide +kernel
theorem d_C_cheapest_39 : decode b_C_cheapest 39 = .ok (.aload_n 0, 1) := by decide +kernel
theorem d_C_cheapest_40 : decode b_C_cheapest 40 = .ok (.getfield 49, 3) := by decide +kernel
theorem d_C_cheapest_43 : decode b_C_cheapest 43 = .ok (.iload 6, 2) := by decide +kernel
theorem d_C_cheapest_45 : decode b_C_cheapest 45 = .ok (.iaload, 1) := by decide +kernel
theorem d_C_cheapest_46 : decode b_C_cheapest 46 = .ok (.aload 4, 2) := by decide +kernel
theorem d_C_cheapest_48 : decode b_C_cheapest 48 = .ok (.getfield 86, 3) := by decide +kernel
theorem d_C_cheapest_51 : decode b_C_cheapest 51 = .ok (.if_icmp .lt 7, 3) := by decide +kernel
theorem d_C_cheapest_54 : decode b_C_cheapest 54 = .ok (.iconst 1, 1) := by decide +kernel
theorem d_C_cheapest_55 : decode b_C_cheapest 55 = .ok (.goto 4, 3) := by decide +kernel
theorem d_C_cheapest_58 : decode b_C_cheapest 58 = .ok (.iconst 0, 1) := by decide +kernel
theorem d_C_cheapest_59 : decode b_C_cheapest 59 = .ok (.istore 7, 2) := by decide +kernel
theorem d_C_cheapest_61 : decode b_C_cheapest 61 = .ok (.iload 7, 2) := by decide +kernel
theorem d_C_cheapest_63 : decode b_C_cheapest 63 = .ok (.ifCond .eq 31, 3) := by decide +kernel
theorem d_C_cheapest_66 : decode b_C_cheapest 66 = .ok (.iload 5, 2) := by decide +kernel
theorem d_C_cheapest_68 : decode b_C_cheapest 68 = .ok (.iconst (-1), 1) := by decide +kernel
theorem d_C_cheapest_69 : decode b_C_cheapest 69 = .ok (.if_icmp .eq 21, 3) := by decide +kernel
theorem d_C_cheapest_72 : decode b_C_cheapest 72 = .ok (.aload_n 0, 1) := by decide +kernel
theorem d_C_cheapest_73 : decode b_C_cheapest 73 = .ok (.getfield 52, 3) := by decide +kernel
theorem d_C_cheapest_76 : decode b_C_cheapest 76 = .ok (.iload 6, 2) := by decide +kernel
theorem d_C_cheapest_78 : decode b_C_cheapest 78 = .ok (.laload, 1) := by decide +kernel
theorem d_C_cheapest_79 : decode b_C_cheapest 79 = .ok (.aload_n 0, 1) := by decide +kernel
theorem d_C_cheapest_80 : decode b_C_cheapest 80 = .ok (.getfield 52, 3) := by decide +kernel
theorem d_C_cheapest_83 : decode b_C_cheapest 83 = .ok (.iload 5, 2) := by decide +kernel
theorem d_C_cheapest_85 : decode b_C_cheapest 85 = .ok (.laload, 1) := by decide +kernel
theorem d_C_cheapest_86 : decode b_C_cheapest 86 = .ok (.lcmp, 1) := by decide +kernel
theorem d_C_cheapest_87 : decode b_C_cheapest 87 = .ok (.ifCond .ge 7, 3) := by decide +kernel
theorem d_C_cheapest_90 : decode b_C_cheapest 90 = .ok (.iload 6, 2) := by decide +kernel
theorem d_C_cheapest_92 : decode b_C_cheapest 92 = .ok (.istore 5, 2) := by decide +kernel
theorem d_C_cheapest_94 : decode b_C_cheapest 94 = .ok (.iinc 6 1, 3) := by decide +kernel
theorem d_C_cheapest_97 : decode b_C_cheapest 97 = .ok (.goto (-66), 3) := by decide +kernel
theorem d_C_cheapest_100 : decode b_C_cheapest 100 = .ok (.iload 5, 2) := by decide +kernel
theorem d_C_cheapest_102 : decode b_C_cheapest 102 = .ok (.ireturn, 1) := by decide +kernel
theorem d_C_costs_0 : decode b_C_costs 0 = .ok (.aload_n 0, 1) := by decide +kernel
theorem d_C_costs_1 : decode b_C_costs 1 = .ok (.iload_n 1, 1) := by decide +kernel
theorem d_C_costs_2 : decode b_C_costs 2 = .ok (.invokevirtual 70, 3) := by decide +kernel
theorem d_C_costs_5 : decode b_C_costs 5 = .ok (.astore 5, 2) := by decide +kernel
theorem d_C_costs_7 : decode b_C_costs 7 = .ok (.iload_n 2, 1) := by decide +kernel
theorem d_C_costs_8 : decode b_C_costs 8 = .ok (.iload_n 3, 1) := by decide +kernel
theorem d_C_costs_9 : decode b_C_costs 9 = .ok (.invokestatic 139, 3) := by decide +kernel
theorem d_C_costs_12 : decode b_C_costs 12 = .ok (.iload 4, 2) := by decide +kernel
theorem d_C_costs_14 : decode b_C_costs 14 = .ok (.iconst 0, 1) := by decide +kernel
theorem d_C_costs_15 : decode b_C_costs 15 = .ok (.iconst 1, 1) := by decide +kernel
theorem d_C_costs_16 : decode b_C_costs 16 = .ok (.iload_n 2, 1) := by decide +kernel
theorem d_C_costs_17 : decode b_C_costs 17 = .ok (.ishl, 1) := by decide +kernel
theorem d_C_costs_18 : decode b_C_costs 18 = .ok (.iconst 1, 1) := by decide +kernel
theorem d_C_costs_19 : decode b_C_costs 19 = .ok (.isub, 1) := by decide +kernel
theorem d_C_costs_20 : decode b_C_costs 20 = .ok (.invokestatic 56, 3) := by decide +kernel
theorem d_C_costs_23 : decode b_C_costs 23 = .ok (.aload 5, 2) := by decide +kernel
theorem d_C_costs_25 : decode b_C_costs 25 = .ok (.invokestatic 142, 3) := by decide +kernel
theorem d_C_costs_28 : decode b_C_costs 28 = .ok (.aload_n 0, 1) := by decide +kernel
theorem d_C_costs_29 : decode b_C_costs 29 = .ok (.aload 5, 2) := by decide +kernel
theorem d_C_costs_31 : decode b_C_costs 31 = .ok (.aload 5, 2) := by decide +kernel
theorem d_C_costs_33 : decode b_C_costs 33 = .ok (.getfield 74, 3) := by decide +kernel
theorem d_C_costs_36 : decode b_C_costs 36 = .ok (.iconst 0, 1) := by decide +kernel
theorem d_C_costs_37 : decode b_C_costs 37 = .ok (.aload 5, 2) := by decide +kernel
theorem d_C_costs_39 : decode b_C_costs 39 = .ok (.iload_n 2, 1) := by decide +kernel
theorem d_C_costs_40 : decode b_C_costs 40 = .ok (.iload_n 3, 1) := by decide +kernel
theorem d_C_costs_41 : decode b_C_costs 41 = .ok (.invokestatic 150, 3) := by decide +kernel
theorem d_C_costs_44 : decode b_C_costs 44 = .ok (.iconst 0, 1) := by decide +kernel
theorem d_C_costs_45 : decode b_C_costs 45 = .ok (.invokevirtual 154, 3) := by decide +kernel
theorem d_C_costs_48 : decode b_C_costs 48 = .ok (.istore 6, 2) := by decide +kernel
theorem d_C_costs_50 : decode b_C_costs 50 = .ok (.lconst 0, 1) := by decide +kernel
theorem d_C_costs_51 : decode b_C_costs 51 = .ok (.lstore 7, 2) := by decide +kernel
theorem d_C_costs_53 : decode b_C_costs 53 = .ok (.iconst 0, 1) := by decide +kernel
theorem d_C_costs_54 : decode b_C_costs 54 = .ok (.istore 9, 2) := by decide +kernel
theorem d_C_costs_56 : decode b_C_costs 56 = .ok (.iload 9, 2) := by decide +kernel
theorem d_C_costs_58 : decode b_C_costs 58 = .ok (.iload_n 2, 1) := by decide +kernel
theorem d_C_costs_59 : decode b_C_costs 59 = .ok (.if_icmp .ge 105, 3) := by decide +kernel
theorem d_C_costs_62 : decode b_C_costs 62 = .ok (.aload 5, 2) := by decide +kernel
theorem d_C_costs_64 : decode b_C_costs 64 = .ok (.iload_n 2, 1) := by decide +kernel
theorem d_C_costs_65 : decode b_C_costs 65 = .ok (.iload 9, 2) := by decide +kernel
theorem d_C_costs_67 : decode b_C_costs 67 = .ok (.isub, 1) := by decide +kernel
theorem d_C_costs_68 : decode b_C_costs 68 = .ok (.iload_n 3, 1) := by decide +kernel
theorem d_C_costs_69 : decode b_C_costs 69 = .ok (.invokestatic 150, 3) := by decide +kernel
theorem d_C_costs_72 : decode b_C_costs 72 = .ok (.istore 10, 2) := by decide +kernel
theorem d_C_costs_74 : decode b_C_costs 74 = .ok (.aload 5, 2) := by decide +kernel
theorem d_C_costs_76 : decode b_C_costs 76 = .ok (.iload_n 2, 1) := by decide +kernel
theorem d_C_costs_77 : decode b_C_costs 77 = .ok (.iload 9, 2) := by decide +kernel
theorem d_C_costs_79 : decode b_C_costs 79 = .ok (.isub, 1) := by decide +kernel
theorem d_C_costs_80 : decode b_C_costs 80 = .ok (.iconst 1, 1) := by decide +kernel
theorem d_C_costs_81 : decode b_C_costs 81 = .ok (.isub, 1) := by decide +kernel
theorem d_C_costs_82 : decode b_C_costs 82 = .ok (.iload_n 3, 1) := by decide +kernel
theorem d_C_costs_83 : decode b_C_costs 83 = .ok (.invokestatic 150, 3) := by decide +kernel
theorem d_C_costs_86 : decode b_C_costs 86 = .ok (.istore 11, 2) := by decide +kernel
theorem d_C_costs_88 : decode b_C_costs 88 = .ok (.iload 4, 2) := by decide +kernel
theorem d_C_costs_90 : decode b_C_costs 90 = .ok (.iload 9, 2) := by decide +kernel
theorem d_C_costs_92 : decode b_C_costs 92 = .ok (.ishr, 1) := by decide +kernel
theorem d_C_costs_93 : decode b_C_costs 93 = .ok (.iconst 1, 1) := by decide +kernel
theorem d_C_costs_94 : decode b_C_costs 94 = .ok (.iand, 1) := by decide +kernel
theorem d_C_costs_95 : decode b_C_costs 95 = .ok (.iconst 1, 1) := by decide +kernel
theorem d_C_costs_96 : decode b_C_costs 96 = .ok (.if_icmp .ne 7, 3) := by decide +kernel
theorem d_C_costs_99 : decode b_C_costs 99 = .ok (.iconst 1, 1) := by decide +kernel
theorem d_C_costs_100 : decode b_C_costs 100 = .ok (.goto 4, 3) := by decide +kernel
theorem d_C_costs_103 : decode b_C_costs 103 = .ok (.iconst 0, 1) := by decide +kernel
theorem d_C_costs_104 : decode b_C_costs 104 = .ok (.istore 12, 2) := by decide +kernel
theorem d_C_costs_106 : decode b_C_costs 106 = .ok (.aload_n 0, 1) := by decide +kernel
theorem d_C_costs_107 : decode b_C_costs 107 = .ok (.aload 5, 2) := by decide +kernel
theorem d_C_costs_109 : decode b_C_costs 109 = .ok (.iload 6, 2) := by decide +kernel
theorem d_C_costs_111 : decode b_C_costs 111 = .ok (.iload 10, 2) := by decide +kernel
theorem d_C_costs_113 : decode b_C_costs 113 = .ok (.iload 11, 2) := by decide +kernel
theorem d_C_costs_115 : decode b_C_costs 115 = .ok (.iload 12, 2) := by decide +kernel
theorem d_C_costs_117 : decode b_C_costs 117 = .ok (.ifCond .eq 11, 3) := by decide +kernel
theorem d_C_costs_120 : decode b_C_costs 120 = .ok (.aload 5, 2) := by decide +kernel
theorem d_C_costs_122 : decode b_C_costs 122 = .ok (.getfield 77, 3) := by decide +kernel
theorem d_C_costs_125 : decode b_C_costs 125 = .ok (.goto 4, 3) := by decide +kernel
theorem d_C_costs_128 : decode b_C_costs 128 = .ok (.iconst 0, 1) := by decide +kernel
theorem d_C_costs_129 : decode b_C_costs 129 = .ok (.invokevirtual 154, 3) := by decide +kernel
theorem d_C_costs_132 : decode b_C_costs 132 = .ok (.istore 6, 2) := by decide +kernel
theorem d_C_costs_134 : decode b_C_costs 134 = .ok (.lload 7, 2) := by decide +kernel
theorem d_C_costs_136 : decode b_C_costs 136 = .ok (.iload 12, 2) := by decide +kernel
theorem d_C_costs_138 : decode b_C_costs 138 = .ok (.ifCond .eq 16, 3) := by decide +kernel
theorem d_C_costs_141 : decode b_C_costs 141 = .ok (.aload_n 0, 1) := by decide +kernel
theorem d_C_costs_142 : decode b_C_costs 142 = .ok (.aload 5, 2) := by decide +kernel
theorem d_C_costs_144 : decode b_C_costs 144 = .ok (.iload 10, 2) := by decide +kernel
theorem d_C_costs_146 : decode b_C_costs 146 = .ok (.iload 11, 2) := by decide +kernel
theorem d_C_costs_148 : decode b_C_costs 148 = .ok (.invokevirtual 158, 3) := by decide +kernel
theorem d_C_costs_151 : decode b_C_costs 151 = .ok (.goto 4, 3) := by decide +kernel
theorem d_C_costs_154 : decode b_C_costs 154 = .ok (.lconst 0, 1) := by decide +kernel
theorem d_C_costs_155 : decode b_C_costs 155 = .ok (.ladd, 1) := by decide +kernel
theorem d_C_costs_156 : decode b_C_costs 156 = .ok (.lstore 7, 2) := by decide +kernel
theorem d_C_costs_158 : decode b_C_costs 158 = .ok (.iinc 9 1, 3) := by decide +kernel
theorem d_C_costs_161 : decode b_C_costs 161 = .ok (.goto (-105), 3) := by decide +kernel
theorem d_C_costs_164 : decode b_C_costs 164 = .ok (.iload 6, 2) := by decide +kernel
theorem d_C_costs_166 : decode b_C_costs 166 = .ok (.aload 5, 2) := by decide +kernel
theorem d_C_costs_168 : decode b_C_costs 168 = .ok (.getfield 86, 3) := by decide +kernel
theorem d_C_costs_171 : decode b_C_costs 171 = .ok (.if_icmp .lt 8, 3) := by decide +kernel
theorem d_C_costs_174 : decode b_C_costs 174 = .ok (.lload 7, 2) := by decide +kernel
theorem d_C_costs_176 : decode b_C_costs 176 = .ok (.goto 6, 3) := by decide +kernel
theorem d_C_costs_179 : decode b_C_costs 179 = .ok (.ldc2_w 162, 3) := by decide +kernel
theorem d_C_costs_182 : decode b_C_costs 182 = .ok (.lreturn, 1) := by decide +kernel
theorem d_C_checkBounds_0 : decode b_C_checkBounds 0 = .ok (.iload_n 0, 1) := by decide +kernel
theorem d_C_checkBounds_1 : decode b_C_checkBounds 1 = .ok (.iload_n 1, 1) := by decide +kernel
theorem d_C_checkBounds_2 : decode b_C_checkBounds 2 = .ok (.if_icmp .lt 8, 3) := by decide +kernel
theorem d_C_checkBounds_5 : decode b_C_checkBounds 5 = .ok (.iload_n 0, 1) := by decide +kernel
theorem d_C_checkBounds_6 : decode b_C_checkBounds 6 = .ok (.iload_n 2, 1) := by decide +kernel
theorem d_C_checkBounds_7 : decode b_C_checkBounds 7 = .ok (.if_icmp .le 13, 3) := by decide +kernel
theorem d_C_checkBounds_10 : decode b_C_checkBounds 10 = .ok (.new 164, 3) := by decide +kernel
theorem d_C_checkBounds_13 : decode b_C_checkBounds 13 = .ok (.dup, 1) := by decide +kernel
theorem d_C_checkBounds_14 : decode b_C_checkBounds 14 = .ok (.ldc 166, 2) := by decide +kernel
theorem d_C_checkBounds_16 : decode b_C_checkBounds 16 = .ok (.invokespecial 168, 3) := by decide +kernel
theorem d_C_checkBounds_19 : decode b_C_checkBounds 19 = .ok (.athrow, 1) := by decide +kernel
theorem d_C_checkBounds_20 : decode b_C_checkBounds 20 = .ok (.return_, 1) := by decide +kernel
theorem d_C_checkQuarters_0 : decode b_C_checkQuarters 0 = .ok (.iload_n 0, 1) := by decide +kernel
theorem d_C_checkQuarters_1 : decode b_C_checkQuarters 1 = .ok (.iconst 1, 1) := by decide +kernel
theorem d_C_checkQuarters_2 : decode b_C_checkQuarters 2 = .ok (.bipush 10, 2) := by decide +kernel
theorem d_C_checkQuarters_4 : decode b_C_checkQuarters 4 = .ok (.invokestatic 56, 3) := by decide +kernel
theorem d_C_checkQuarters_7 : decode b_C_checkQuarters 7 = .ok (.iload_n 1, 1) := by decide +kernel
theorem d_C_checkQuarters_8 : decode b_C_checkQuarters 8 = .ok (.iconst 1, 1) := by decide +kernel
theorem d_C_checkQuarters_9 : decode b_C_checkQuarters 9 = .ok (.bipush 30, 2) := by decide +kernel
theorem d_C_checkQuarters_11 : decode b_C_checkQuarters 11 = .ok (.invokestatic 56, 3) := by decide +kernel
theorem d_C_checkQuarters_14 : decode b_C_checkQuarters 14 = .ok (.return_, 1) := by decide +kernel
theorem d_C_checkWants_0 : decode b_C_checkWants 0 = .ok (.aload_n 0, 1) := by decide +kernel
theorem d_C_checkWants_1 : decode b_C_checkWants 1 = .ok (.invokevirtual 100, 3) := by decide +kernel
theorem d_C_checkWants_4 : decode b_C_checkWants 4 = .ok (.ifCond .ne 13, 3) := by decide +kernel
theorem d_C_checkWants_7 : decode b_C_checkWants 7 = .ok (.new 60, 3) := by decide +kernel
theorem d_C_checkWants_10 : decode b_C_checkWants 10 = .ok (.dup, 1) := by decide +kernel
theorem d_C_checkWants_11 : decode b_C_checkWants 11 = .ok (.ldc 169, 2) := by decide +kernel
theorem d_C_checkWants_13 : decode b_C_checkWants 13 = .ok (.invokespecial 64, 3) := by decide +kernel
theorem d_C_checkWants_16 : decode b_C_checkWants 16 = .ok (.athrow, 1) := by decide +kernel
theorem d_C_checkWants_17 : decode b_C_checkWants 17 = .ok (.return_, 1) := by decide +kernel
theorem d_C_knownZone_0 : decode b_C_knownZone 0 = .ok (.iload_n 1, 1) := by decide +kernel
theorem d_C_knownZone_1 : decode b_C_knownZone 1 = .ok (.ifCond .lt 11, 3) := by decide +kernel
theorem d_C_knownZone_4 : decode b_C_knownZone 4 = .ok (.iload_n 1, 1) := by decide +kernel
theorem d_C_knownZone_5 : decode b_C_knownZone 5 = .ok (.aload_n 0, 1) := by decide +kernel
theorem d_C_knownZone_6 : decode b_C_knownZone 6 = .ok (.getfield 15, 3) := by decide +kernel
theorem d_C_knownZone_9 : decode b_C_knownZone 9 = .ok (.if_icmp .lt 13, 3) := by decide +kernel
theorem d_C_knownZone_12 : decode b_C_knownZone 12 = .ok (.new 164, 3) := by decide +kernel
theorem d_C_knownZone_15 : decode b_C_knownZone 15 = .ok (.dup, 1) := by decide +kernel
theorem d_C_knownZone_16 : decode b_C_knownZone 16 = .ok (.ldc 171, 2) := by decide +kernel
theorem d_C_knownZone_18 : decode b_C_knownZone 18 = .ok (.invokespecial 168, 3) := by decide +kernel
theorem d_C_knownZone_21 : decode b_C_knownZone 21 = .ok (.athrow, 1) := by decide +kernel
theorem d_C_knownZone_22 : decode b_C_knownZone 22 = .ok (.aload_n 0, 1) := by decide +kernel
theorem d_C_knownZone_23 : decode b_C_knownZone 23 = .ok (.getfield 11, 3) := by decide +kernel
theorem d_C_knownZone_26 : decode b_C_knownZone 26 = .ok (.iload_n 1, 1) := by decide +kernel
theorem d_C_knownZone_27 : decode b_C_knownZone 27 = .ok (.aaload, 1) := by decide +kernel
theorem d_C_knownZone_28 : decode b_C_knownZone 28 = .ok (.areturn, 1) := by decide +kernel
theorem d_C_plannedZone_0 : decode b_C_plannedZone 0 = .ok (.aload_n 0, 1) := by decide +kernel
theorem d_C_plannedZone_1 : decode b_C_plannedZone 1 = .ok (.iload_n 1, 1) := by decide +kernel
theorem d_C_plannedZone_2 : decode b_C_plannedZone 2 = .ok (.invokevirtual 70, 3) := by decide +kernel
theorem d_C_plannedZone_5 : decode b_C_plannedZone 5 = .ok (.astore_n 2, 1) := by decide +kernel
theorem d_C_plannedZone_6 : decode b_C_plannedZone 6 = .ok (.aload_n 0, 1) := by decide +kernel
theorem d_C_plannedZone_7 : decode b_C_plannedZone 7 = .ok (.invokevirtual 107, 3) := by decide +kernel
theorem d_C_plannedZone_10 : decode b_C_plannedZone 10 = .ok (.aload_n 2, 1) := by decide +kernel
theorem d_C_plannedZone_11 : decode b_C_plannedZone 11 = .ok (.areturn, 1) := by decide +kernel
theorem d_C_warmthAfter_0 : decode b_C_warmthAfter 0 = .ok (.iload_n 2, 1) := by decide +kernel
theorem d_C_warmthAfter_1 : decode b_C_warmthAfter 1 = .ok (.aload_n 0, 1) := by decide +kernel
theorem d_C_warmthAfter_2 : decode b_C_warmthAfter 2 = .ok (.getfield 19, 3) := by decide +kernel
theorem d_C_warmthAfter_5 : decode b_C_warmthAfter 5 = .ok (.iload_n 3, 1) := by decide +kernel
theorem d_C_warmthAfter_6 : decode b_C_warmthAfter 6 = .ok (.iaload, 1) := by decide +kernel
theorem d_C_warmthAfter_7 : decode b_C_warmthAfter 7 = .ok (.iload_n 2, 1) := by decide +kernel
theorem d_C_warmthAfter_8 : decode b_C_warmthAfter 8 = .ok (.isub, 1) := by decide +kernel
theorem d_C_warmthAfter_9 : decode b_C_warmthAfter 9 = .ok (.aload_n 1, 1) := by decide +kernel
theorem d_C_warmthAfter_10 : decode b_C_warmthAfter 10 = .ok (.getfield 173, 3) := by decide +kernel
theorem d_C_warmthAfter_13 : decode b_C_warmthAfter 13 = .ok (.idiv, 1) := by decide +kernel
theorem d_C_warmthAfter_14 : decode b_C_warmthAfter 14 = .ok (.iadd, 1) := by decide +kernel
theorem d_C_warmthAfter_15 : decode b_C_warmthAfter 15 = .ok (.iload 4, 2) := by decide +kernel
theorem d_C_warmthAfter_17 : decode b_C_warmthAfter 17 = .ok (.aload_n 1, 1) := by decide +kernel
theorem d_C_warmthAfter_18 : decode b_C_warmthAfter 18 = .ok (.getfield 176, 3) := by decide +kernel
theorem d_C_warmthAfter_21 : decode b_C_warmthAfter 21 = .ok (.idiv, 1) := by decide +kernel
theorem d_C_warmthAfter_22 : decode b_C_warmthAfter 22 = .ok (.iadd, 1) := by decide +kernel
theorem d_C_warmthAfter_23 : decode b_C_warmthAfter 23 = .ok (.ireturn, 1) := by decide +kernel
theorem d_C_warmthThrough_0 : decode b_C_warmthThrough 0 = .ok (.iload_n 2, 1) := by decide +kernel
theorem d_C_warmthThrough_1 : decode b_C_warmthThrough 1 = .ok (.istore 6, 2) := by decide +kernel
theorem d_C_warmthThrough_3 : decode b_C_warmthThrough 3 = .ok (.iload_n 3, 1) := by decide +kernel
theorem d_C_warmthThrough_4 : decode b_C_warmthThrough 4 = .ok (.istore 7, 2) := by decide +kernel
theorem d_C_warmthThrough_6 : decode b_C_warmthThrough 6 = .ok (.iload 7, 2) := by decide +kernel
theorem d_C_warmthThrough_8 : decode b_C_warmthThrough 8 = .ok (.iload 4, 2) := by decide +kernel
theorem d_C_warmthThrough_10 : decode b_C_warmthThrough 10 = .ok (.if_icmp .ge 22, 3) := by decide +kernel
theorem d_C_warmthThrough_13 : decode b_C_warmthThrough 13 = .ok (.aload_n 0, 1) := by decide +kernel
theorem d_C_warmthThrough_14 : decode b_C_warmthThrough 14 = .ok (.aload_n 1, 1) := by decide +kernel
theorem d_C_warmthThrough_15 : decode b_C_warmthThrough 15 = .ok (.iload 6, 2) := by decide +kernel
theorem d_C_warmthThrough_17 : decode b_C_warmthThrough 17 = .ok (.iload 7, 2) := by decide +kernel
theorem d_C_warmthThrough_19 : decode b_C_warmthThrough 19 = .ok (.iload 5, 2) := by decide +kernel
theorem d_C_warmthThrough_21 : decode b_C_warmthThrough 21 = .ok (.invokevirtual 179, 3) := by decide +kernel
theorem d_C_warmthThrough_24 : decode b_C_warmthThrough 24 = .ok (.istore 6, 2) := by decide +kernel
theorem d_C_warmthThrough_26 : decode b_C_warmthThrough 26 = .ok (.iinc 7 1, 3) := by decide +kernel
theorem d_C_warmthThrough_29 : decode b_C_warmthThrough 29 = .ok (.goto (-23), 3) := by decide +kernel
theorem d_C_warmthThrough_32 : decode b_C_warmthThrough 32 = .ok (.iload 6, 2) := by decide +kernel
theorem d_C_warmthThrough_34 : decode b_C_warmthThrough 34 = .ok (.ireturn, 1) := by decide +kernel
theorem d_C_makePlan_0 : decode b_C_makePlan 0 = .ok (.aload_n 0, 1) := by decide +kernel
theorem d_C_makePlan_1 : decode b_C_makePlan 1 = .ok (.getfield 36, 3) := by decide +kernel
theorem d_C_makePlan_4 : decode b_C_makePlan 4 = .ok (.ifCond .eq 4, 3) := by decide +kernel
theorem d_C_makePlan_7 : decode b_C_makePlan 7 = .ok (.return_, 1) := by decide +kernel
theorem d_C_makePlan_8 : decode b_C_makePlan 8 = .ok (.iconst 0, 1) := by decide +kernel
theorem d_C_makePlan_9 : decode b_C_makePlan 9 = .ok (.istore_n 1, 1) := by decide +kernel
theorem d_C_makePlan_10 : decode b_C_makePlan 10 = .ok (.iload_n 1, 1) := by decide +kernel
theorem d_C_makePlan_11 : decode b_C_makePlan 11 = .ok (.sipush 1440, 3) := by decide +kernel
theorem d_C_makePlan_14 : decode b_C_makePlan 14 = .ok (.if_icmp .ge 16, 3) := by decide +kernel
theorem d_C_makePlan_17 : decode b_C_makePlan 17 = .ok (.aload_n 0, 1) := by decide +kernel
theorem d_C_makePlan_18 : decode b_C_makePlan 18 = .ok (.getfield 33, 3) := by decide +kernel
theorem d_C_makePlan_21 : decode b_C_makePlan 21 = .ok (.iload_n 1, 1) := by decide +kernel
theorem d_C_makePlan_22 : decode b_C_makePlan 22 = .ok (.iconst 0, 1) := by decide +kernel
theorem d_C_makePlan_23 : decode b_C_makePlan 23 = .ok (.iastore, 1) := by decide +kernel
theorem d_C_makePlan_24 : decode b_C_makePlan 24 = .ok (.iinc 1 1, 3) := by decide +kernel
theorem d_C_makePlan_27 : decode b_C_makePlan 27 = .ok (.goto (-17), 3) := by decide +kernel
theorem d_C_makePlan_30 : decode b_C_makePlan 30 = .ok (.iconst 0, 1) := by decide +kernel
theorem d_C_makePlan_31 : decode b_C_makePlan 31 = .ok (.istore_n 1, 1) := by decide +kernel
theorem d_C_makePlan_32 : decode b_C_makePlan 32 = .ok (.iload_n 1, 1) := by decide +kernel
theorem d_C_makePlan_33 : decode b_C_makePlan 33 = .ok (.bipush 9, 2) := by decide +kernel
theorem d_C_makePlan_35 : decode b_C_makePlan 35 = .ok (.if_icmp .gt 48, 3) := by decide +kernel
theorem d_C_makePlan_38 : decode b_C_makePlan 38 = .ok (.iconst 0, 1) := by decide +kernel
theorem d_C_makePlan_39 : decode b_C_makePlan 39 = .ok (.istore_n 2, 1) := by decide +kernel
theorem d_C_makePlan_40 : decode b_C_makePlan 40 = .ok (.iload_n 2, 1) := by decide +kernel
theorem d_C_makePlan_41 : decode b_C_makePlan 41 = .ok (.aload_n 0, 1) := by decide +kernel
theorem d_C_makePlan_42 : decode b_C_makePlan 42 = .ok (.getfield 15, 3) := by decide +kernel
theorem d_C_makePlan_45 : decode b_C_makePlan 45 = .ok (.if_icmp .ge 32, 3) := by decide +kernel
theorem d_C_makePlan_48 : decode b_C_makePlan 48 = .ok (.aload_n 0, 1) := by decide +kernel
theorem d_C_makePlan_49 : decode b_C_makePlan 49 = .ok (.getfield 11, 3) := by decide +kernel
theorem d_C_makePlan_52 : decode b_C_makePlan 52 = .ok (.iload_n 2, 1) := by decide +kernel
theorem d_C_makePlan_53 : decode b_C_makePlan 53 = .ok (.aaload, 1) := by decide +kernel
theorem d_C_makePlan_54 : decode b_C_makePlan 54 = .ok (.getfield 80, 3) := by decide +kernel
theorem d_C_makePlan_57 : decode b_C_makePlan 57 = .ok (.iload_n 1, 1) := by decide +kernel
theorem d_C_makePlan_58 : decode b_C_makePlan 58 = .ok (.if_icmp .ne 13, 3) := by decide +kernel
theorem d_C_makePlan_61 : decode b_C_makePlan 61 = .ok (.aload_n 0, 1) := by decide +kernel
theorem d_C_makePlan_62 : decode b_C_makePlan 62 = .ok (.aload_n 0, 1) := by decide +kernel
theorem d_C_makePlan_63 : decode b_C_makePlan 63 = .ok (.getfield 11, 3) := by decide +kernel
theorem d_C_makePlan_66 : decode b_C_makePlan 66 = .ok (.iload_n 2, 1) := by decide +kernel
theorem d_C_makePlan_67 : decode b_C_makePlan 67 = .ok (.aaload, 1) := by decide +kernel
theorem d_C_makePlan_68 : decode b_C_makePlan 68 = .ok (.invokevirtual 183, 3) := by decide +kernel
theorem d_C_makePlan_71 : decode b_C_makePlan 71 = .ok (.iinc 2 1, 3) := by decide +kernel
theorem d_C_makePlan_74 : decode b_C_makePlan 74 = .ok (.goto (-34), 3) := by decide +kernel
theorem d_C_makePlan_77 : decode b_C_makePlan 77 = .ok (.iinc 1 1, 3) := by decide +kernel
theorem d_C_makePlan_80 : decode b_C_makePlan 80 = .ok (.goto (-48), 3) := by decide +kernel
theorem d_C_makePlan_83 : decode b_C_makePlan 83 = .ok (.aload_n 0, 1) := by decide +kernel
theorem d_C_makePlan_84 : decode b_C_makePlan 84 = .ok (.iconst 1, 1) := by decide +kernel
theorem d_C_makePlan_85 : decode b_C_makePlan 85 = .ok (.putfield 36, 3) := by decide +kernel
theorem d_C_makePlan_88 : decode b_C_makePlan 88 = .ok (.return_, 1) := by decide +kernel
theorem d_C_planZone_0 : decode b_C_planZone 0 = .ok (.aload_n 1, 1) := by decide +kernel
theorem d_C_planZone_1 : decode b_C_planZone 1 = .ok (.getfield 104, 3) := by decide +kernel
theorem d_C_planZone_4 : decode b_C_planZone 4 = .ok (.iconst 0, 1) := by decide +kernel
theorem d_C_planZone_5 : decode b_C_planZone 5 = .ok (.aload_n 1, 1) := by decide +kernel
theorem d_C_planZone_6 : decode b_C_planZone 6 = .ok (.getfield 74, 3) := by decide +kernel
theorem d_C_planZone_9 : decode b_C_planZone 9 = .ok (.iastore, 1) := by decide +kernel
theorem d_C_planZone_10 : decode b_C_planZone 10 = .ok (.aload_n 0, 1) := by decide +kernel
theorem d_C_planZone_11 : decode b_C_planZone 11 = .ok (.aload_n 1, 1) := by decide +kernel
theorem d_C_planZone_12 : decode b_C_planZone 12 = .ok (.iconst 0, 1) := by decide +kernel
theorem d_C_planZone_13 : decode b_C_planZone 13 = .ok (.invokevirtual 186, 3) := by decide +kernel
theorem d_C_planZone_16 : decode b_C_planZone 16 = .ok (.aload_n 1, 1) := by decide +kernel
theorem d_C_planZone_17 : decode b_C_planZone 17 = .ok (.iconst (-1), 1) := by decide +kernel
theorem d_C_planZone_18 : decode b_C_planZone 18 = .ok (.putfield 97, 3) := by decide +kernel
theorem d_C_planZone_21 : decode b_C_planZone 21 = .ok (.aload_n 1, 1) := by decide +kernel
theorem d_C_planZone_22 : decode b_C_planZone 22 = .ok (.invokevirtual 100, 3) := by decide +kernel
theorem d_C_planZone_25 : decode b_C_planZone 25 = .ok (.ifCond .eq 26, 3) := by decide +kernel
theorem d_C_planZone_28 : decode b_C_planZone 28 = .ok (.aload_n 1, 1) := by decide +kernel
theorem d_C_planZone_29 : decode b_C_planZone 29 = .ok (.aload_n 0, 1) := by decide +kernel
theorem d_C_planZone_30 : decode b_C_planZone 30 = .ok (.aload_n 1, 1) := by decide +kernel
theorem d_C_planZone_31 : decode b_C_planZone 31 = .ok (.invokevirtual 190, 3) := by decide +kernel
theorem d_C_planZone_34 : decode b_C_planZone 34 = .ok (.putfield 97, 3) := by decide +kernel
theorem d_C_planZone_37 : decode b_C_planZone 37 = .ok (.aload_n 0, 1) := by decide +kernel
theorem d_C_planZone_38 : decode b_C_planZone 38 = .ok (.aload_n 1, 1) := by decide +kernel
theorem d_C_planZone_39 : decode b_C_planZone 39 = .ok (.invokevirtual 194, 3) := by decide +kernel
theorem d_C_planZone_42 : decode b_C_planZone 42 = .ok (.aload_n 0, 1) := by decide +kernel
theorem d_C_planZone_43 : decode b_C_planZone 43 = .ok (.aload_n 1, 1) := by decide +kernel
theorem d_C_planZone_44 : decode b_C_planZone 44 = .ok (.aload_n 1, 1) := by decide +kernel
theorem d_C_planZone_45 : decode b_C_planZone 45 = .ok (.getfield 83, 3) := by decide +kernel
theorem d_C_planZone_48 : decode b_C_planZone 48 = .ok (.invokevirtual 186, 3) := by decide +kernel
theorem d_C_planZone_51 : decode b_C_planZone 51 = .ok (.return_, 1) := by decide +kernel
theorem d_C_leaveUnheated_0 : decode b_C_leaveUnheated 0 = .ok (.iload_n 2, 1) := by decide +kernel
theorem d_C_leaveUnheated_1 : decode b_C_leaveUnheated 1 = .ok (.istore_n 3, 1) := by decide +kernel
theorem d_C_leaveUnheated_2 : decode b_C_leaveUnheated 2 = .ok (.iload_n 3, 1) := by decide +kernel
theorem d_C_leaveUnheated_3 : decode b_C_leaveUnheated 3 = .ok (.sipush 1440, 3) := by decide +kernel
theorem d_C_leaveUnheated_6 : decode b_C_leaveUnheated 6 = .ok (.if_icmp .ge 30, 3) := by decide +kernel
theorem d_C_leaveUnheated_9 : decode b_C_leaveUnheated 9 = .ok (.aload_n 1, 1) := by decide +kernel
theorem d_C_leaveUnheated_10 : decode b_C_leaveUnheated 10 = .ok (.getfield 104, 3) := by decide +kernel
theorem d_C_leaveUnheated_13 : decode b_C_leaveUnheated 13 = .ok (.iload_n 3, 1) := by decide +kernel
theorem d_C_leaveUnheated_14 : decode b_C_leaveUnheated 14 = .ok (.iconst 1, 1) := by decide +kernel
theorem d_C_leaveUnheated_15 : decode b_C_leaveUnheated 15 = .ok (.iadd, 1) := by decide +kernel
theorem d_C_leaveUnheated_16 : decode b_C_leaveUnheated 16 = .ok (.aload_n 0, 1) := by decide +kernel
theorem d_C_leaveUnheated_17 : decode b_C_leaveUnheated 17 = .ok (.aload_n 1, 1) := by decide +kernel
theorem d_C_leaveUnheated_18 : decode b_C_leaveUnheated 18 = .ok (.aload_n 1, 1) := by decide +kernel
theorem d_C_leaveUnheated_19 : decode b_C_leaveUnheated 19 = .ok (.getfield 104, 3) := by decide +kernel
theorem d_C_leaveUnheated_22 : decode b_C_leaveUnheated 22 = .ok (.iload_n 3, 1) := by decide +kernel
theorem d_C_leaveUnheated_23 : decode b_C_leaveUnheated 23 = .ok (.iaload, 1) := by decide +kernel
theorem d_C_leaveUnheated_24 : decode b_C_leaveUnheated 24 = .ok (.iload_n 3, 1) := by decide +kernel
theorem d_C_leaveUnheated_25 : decode b_C_leaveUnheated 25 = .ok (.iconst 0, 1) := by decide +kernel
theorem d_C_leaveUnheated_26 : decode b_C_leaveUnheated 26 = .ok (.invokevirtual 179, 3) := by decide +kernel
theorem d_C_leaveUnheated_29 : decode b_C_leaveUnheated 29 = .ok (.iastore, 1) := by decide +kernel
theorem d_C_leaveUnheated_30 : decode b_C_leaveUnheated 30 = .ok (.iinc 3 1, 3) := by decide +kernel
theorem d_C_leaveUnheated_33 : decode b_C_leaveUnheated 33 = .ok (.goto (-31), 3) := by decide +kernel
theorem d_C_leaveUnheated_36 : decode b_C_leaveUnheated 36 = .ok (.return_, 1) := by decide +kernel
theorem d_C_latestStart_0 : decode b_C_latestStart 0 = .ok (.iconst 0, 1) := by decide +kernel
theorem d_C_latestStart_1 : decode b_C_latestStart 1 = .ok (.istore_n 2, 1) := by decide +kernel
theorem d_C_latestStart_2 : decode b_C_latestStart 2 = .ok (.sipush 1024, 3) := by decide +kernel
theorem d_C_latestStart_5 : decode b_C_latestStart 5 = .ok (.istore_n 3, 1) := by decide +kernel
theorem d_C_latestStart_6 : decode b_C_latestStart 6 = .ok (.iload_n 3, 1) := by decide +kernel
theorem d_C_latestStart_7 : decode b_C_latestStart 7 = .ok (.ifCond .le 41, 3) := by decide +kernel
theorem d_C_latestStart_10 : decode b_C_latestStart 10 = .ok (.iload_n 2, 1) := by decide +kernel
theorem d_C_latestStart_11 : decode b_C_latestStart 11 = .ok (.iload_n 3, 1) := by decide +kernel
theorem d_C_latestStart_12 : decode b_C_latestStart 12 = .ok (.iadd, 1) := by decide +kernel
theorem d_C_latestStart_13 : decode b_C_latestStart 13 = .ok (.istore 4, 2) := by decide +kernel
theorem d_C_latestStart_15 : decode b_C_latestStart 15 = .ok (.iload 4, 2) := by decide +kernel
theorem d_C_latestStart_17 : decode b_C_latestStart 17 = .ok (.aload_n 1, 1) := by decide +kernel
theorem d_C_latestStart_18 : decode b_C_latestStart 18 = .ok (.getfield 83, 3) := by decide +kernel
theorem d_C_latestStart_21 : decode b_C_latestStart 21 = .ok (.if_icmp .gt 20, 3) := by decide +kernel
theorem d_C_latestStart_24 : decode b_C_latestStart 24 = .ok (.aload_n 0, 1) := by decide +kernel
theorem d_C_latestStart_25 : decode b_C_latestStart 25 = .ok (.aload_n 1, 1) := by decide +kernel
theorem d_C_latestStart_26 : decode b_C_latestStart 26 = .ok (.iload 4, 2) := by decide +kernel
theorem d_C_latestStart_28 : decode b_C_latestStart 28 = .ok (.invokevirtual 197, 3) := by decide +kernel
theorem d_C_latestStart_31 : decode b_C_latestStart 31 = .ok (.aload_n 1, 1) := by decide +kernel
theorem d_C_latestStart_32 : decode b_C_latestStart 32 = .ok (.getfield 86, 3) := by decide +kernel
theorem d_C_latestStart_35 : decode b_C_latestStart 35 = .ok (.if_icmp .lt 6, 3) := by decide +kernel
theorem d_C_latestStart_38 : decode b_C_latestStart 38 = .ok (.iload 4, 2) := by decide +kernel
theorem d_C_latestStart_40 : decode b_C_latestStart 40 = .ok (.istore_n 2, 1) := by decide +kernel
theorem d_C_latestStart_41 : decode b_C_latestStart 41 = .ok (.iload_n 3, 1) := by decide +kernel
theorem d_C_latestStart_42 : decode b_C_latestStart 42 = .ok (.iconst 2, 1) := by decide +kernel
theorem d_C_latestStart_43 : decode b_C_latestStart 43 = .ok (.idiv, 1) := by decide +kernel
theorem d_C_latestStart_44 : decode b_C_latestStart 44 = .ok (.istore_n 3, 1) := by decide +kernel
theorem d_C_latestStart_45 : decode b_C_latestStart 45 = .ok (.goto (-39), 3) := by decide +kernel
theorem d_C_latestStart_48 : decode b_C_latestStart 48 = .ok (.iload_n 2, 1) := by decide +kernel
theorem d_C_latestStart_49 : decode b_C_latestStart 49 = .ok (.ireturn, 1) := by decide +kernel
theorem d_C_warmthIfStarted_0 : decode b_C_warmthIfStarted 0 = .ok (.aload_n 1, 1) := by decide +kernel
theorem d_C_warmthIfStarted_1 : decode b_C_warmthIfStarted 1 = .ok (.getfield 104, 3) := by decide +kernel
theorem d_C_warmthIfStarted_4 : decode b_C_warmthIfStarted 4 = .ok (.iload_n 2, 1) := by decide +kernel
theorem d_C_warmthIfStarted_5 : decode b_C_warmthIfStarted 5 = .ok (.iaload, 1) := by decide +kernel
theorem d_C_warmthIfStarted_6 : decode b_C_warmthIfStarted 6 = .ok (.istore_n 3, 1) := by decide +kernel
theorem d_C_warmthIfStarted_7 : decode b_C_warmthIfStarted 7 = .ok (.iload_n 2, 1) := by decide +kernel
theorem d_C_warmthIfStarted_8 : decode b_C_warmthIfStarted 8 = .ok (.istore 4, 2) := by decide +kernel
theorem d_C_warmthIfStarted_10 : decode b_C_warmthIfStarted 10 = .ok (.iload 4, 2) := by decide +kernel
theorem d_C_warmthIfStarted_12 : decode b_C_warmthIfStarted 12 = .ok (.aload_n 1, 1) := by decide +kernel
theorem d_C_warmthIfStarted_13 : decode b_C_warmthIfStarted 13 = .ok (.getfield 83, 3) := by decide +kernel
theorem d_C_warmthIfStarted_16 : decode b_C_warmthIfStarted 16 = .ok (.if_icmp .ge 25, 3) := by decide +kernel
theorem d_C_warmthIfStarted_19 : decode b_C_warmthIfStarted 19 = .ok (.aload_n 0, 1) := by decide +kernel
theorem d_C_warmthIfStarted_20 : decode b_C_warmthIfStarted 20 = .ok (.aload_n 1, 1) := by decide +kernel
theorem d_C_warmthIfStarted_21 : decode b_C_warmthIfStarted 21 = .ok (.iload_n 3, 1) := by decide +kernel
theorem d_C_warmthIfStarted_22 : decode b_C_warmthIfStarted 22 = .ok (.iload 4, 2) := by decide +kernel
theorem d_C_warmthIfStarted_24 : decode b_C_warmthIfStarted 24 = .ok (.aload_n 0, 1) := by decide +kernel
theorem d_C_warmthIfStarted_25 : decode b_C_warmthIfStarted 25 = .ok (.aload_n 1, 1) := by decide +kernel
theorem d_C_warmthIfStarted_26 : decode b_C_warmthIfStarted 26 = .ok (.iload 4, 2) := by decide +kernel
theorem d_C_warmthIfStarted_28 : decode b_C_warmthIfStarted 28 = .ok (.invokevirtual 201, 3) := by decide +kernel
theorem d_C_warmthIfStarted_31 : decode b_C_warmthIfStarted 31 = .ok (.invokevirtual 179, 3) := by decide +kernel
theorem d_C_warmthIfStarted_34 : decode b_C_warmthIfStarted 34 = .ok (.istore_n 3, 1) := by decide +kernel
theorem d_C_warmthIfStarted_35 : decode b_C_warmthIfStarted 35 = .ok (.iinc 4 1, 3) := by decide +kernel
theorem d_C_warmthIfStarted_38 : decode b_C_warmthIfStarted 38 = .ok (.goto (-28), 3) := by decide +kernel
theorem d_C_warmthIfStarted_41 : decode b_C_warmthIfStarted 41 = .ok (.iload_n 3, 1) := by decide +kernel
theorem d_C_warmthIfStarted_42 : decode b_C_warmthIfStarted 42 = .ok (.ireturn, 1) := by decide +kernel
theorem d_C_heatFromStart_0 : decode b_C_heatFromStart 0 = .ok (.aload_n 1, 1) := by decide +kernel
theorem d_C_heatFromStart_1 : decode b_C_heatFromStart 1 = .ok (.getfield 97, 3) := by decide +kernel
theorem d_C_heatFromStart_4 : decode b_C_heatFromStart 4 = .ok (.istore_n 2, 1) := by decide +kernel
theorem d_C_heatFromStart_5 : decode b_C_heatFromStart 5 = .ok (.iload_n 2, 1) := by decide +kernel
theorem d_C_heatFromStart_6 : decode b_C_heatFromStart 6 = .ok (.aload_n 1, 1) := by decide +kernel
theorem d_C_heatFromStart_7 : decode b_C_heatFromStart 7 = .ok (.getfield 83, 3) := by decide +kernel
theorem d_C_heatFromStart_10 : decode b_C_heatFromStart 10 = .ok (.if_icmp .ge 47, 3) := by decide +kernel
theorem d_C_heatFromStart_13 : decode b_C_heatFromStart 13 = .ok (.aload_n 0, 1) := by decide +kernel
theorem d_C_heatFromStart_14 : decode b_C_heatFromStart 14 = .ok (.aload_n 1, 1) := by decide +kernel
theorem d_C_heatFromStart_15 : decode b_C_heatFromStart 15 = .ok (.iload_n 2, 1) := by decide +kernel
theorem d_C_heatFromStart_16 : decode b_C_heatFromStart 16 = .ok (.invokevirtual 201, 3) := by decide +kernel
theorem d_C_heatFromStart_19 : decode b_C_heatFromStart 19 = .ok (.istore_n 3, 1) := by decide +kernel
theorem d_C_heatFromStart_20 : decode b_C_heatFromStart 20 = .ok (.aload_n 1, 1) := by decide +kernel
theorem d_C_heatFromStart_21 : decode b_C_heatFromStart 21 = .ok (.getfield 104, 3) := by decide +kernel
theorem d_C_heatFromStart_24 : decode b_C_heatFromStart 24 = .ok (.iload_n 2, 1) := by decide +kernel
theorem d_C_heatFromStart_25 : decode b_C_heatFromStart 25 = .ok (.iconst 1, 1) := by decide +kernel
theorem d_C_heatFromStart_26 : decode b_C_heatFromStart 26 = .ok (.iadd, 1) := by decide +kernel
theorem d_C_heatFromStart_27 : decode b_C_heatFromStart 27 = .ok (.aload_n 0, 1) := by decide +kernel
theorem d_C_heatFromStart_28 : decode b_C_heatFromStart 28 = .ok (.aload_n 1, 1) := by decide +kernel
theorem d_C_heatFromStart_29 : decode b_C_heatFromStart 29 = .ok (.aload_n 1, 1) := by decide +kernel
theorem d_C_heatFromStart_30 : decode b_C_heatFromStart 30 = .ok (.getfield 104, 3) := by decide +kernel
theorem d_C_heatFromStart_33 : decode b_C_heatFromStart 33 = .ok (.iload_n 2, 1) := by decide +kernel
theorem d_C_heatFromStart_34 : decode b_C_heatFromStart 34 = .ok (.iaload, 1) := by decide +kernel
theorem d_C_heatFromStart_35 : decode b_C_heatFromStart 35 = .ok (.iload_n 2, 1) := by decide +kernel
theorem d_C_heatFromStart_36 : decode b_C_heatFromStart 36 = .ok (.iload_n 3, 1) := by decide +kernel
theorem d_C_heatFromStart_37 : decode b_C_heatFromStart 37 = .ok (.invokevirtual 179, 3) := by decide +kernel
theorem d_C_heatFromStart_40 : decode b_C_heatFromStart 40 = .ok (.iastore, 1) := by decide +kernel
theorem d_C_heatFromStart_41 : decode b_C_heatFromStart 41 = .ok (.aload_n 0, 1) := by decide +kernel
theorem d_C_heatFromStart_42 : decode b_C_heatFromStart 42 = .ok (.getfield 33, 3) := by decide +kernel
theorem d_C_heatFromStart_45 : decode b_C_heatFromStart 45 = .ok (.iload_n 2, 1) := by decide +kernel
theorem d_C_heatFromStart_46 : decode b_C_heatFromStart 46 = .ok (.dup2, 1) := by decide +kernel
theorem d_C_heatFromStart_47 : decode b_C_heatFromStart 47 = .ok (.iaload, 1) := by decide +kernel
theorem d_C_heatFromStart_48 : decode b_C_heatFromStart 48 = .ok (.iload_n 3, 1) := by decide +kernel
theorem d_C_heatFromStart_49 : decode b_C_heatFromStart 49 = .ok (.iadd, 1) := by decide +kernel
theorem d_C_heatFromStart_50 : decode b_C_heatFromStart 50 = .ok (.iastore, 1) := by decide +kernel
theorem d_C_heatFromStart_51 : decode b_C_heatFromStart 51 = .ok (.iinc 2 1, 3) := by decide +kernel
theorem d_C_heatFromStart_54 : decode b_C_heatFromStart 54 = .ok (.goto (-49), 3) := by decide +kernel
theorem d_C_heatFromStart_57 : decode b_C_heatFromStart 57 = .ok (.return_, 1) := by decide +kernel
theorem d_C_shareOf_0 : decode b_C_shareOf 0 = .ok (.aload_n 0, 1) := by decide +kernel
theorem d_C_shareOf_1 : decode b_C_shareOf 1 = .ok (.getfield 30, 3) := by decide +kernel
theorem d_C_shareOf_4 : decode b_C_shareOf 4 = .ok (.aload_n 0, 1) := by decide +kernel
theorem d_C_shareOf_5 : decode b_C_shareOf 5 = .ok (.getfield 33, 3) := by decide +kernel
theorem d_C_shareOf_8 : decode b_C_shareOf 8 = .ok (.iload_n 2, 1) := by decide +kernel
theorem d_C_shareOf_9 : decode b_C_shareOf 9 = .ok (.iaload, 1) := by decide +kernel
theorem d_C_shareOf_10 : decode b_C_shareOf 10 = .ok (.isub, 1) := by decide +kernel
theorem d_C_shareOf_11 : decode b_C_shareOf 11 = .ok (.istore_n 3, 1) := by decide +kernel
theorem d_C_shareOf_12 : decode b_C_shareOf 12 = .ok (.aload_n 1, 1) := by decide +kernel
theorem d_C_shareOf_13 : decode b_C_shareOf 13 = .ok (.getfield 77, 3) := by decide +kernel
theorem d_C_shareOf_16 : decode b_C_shareOf 16 = .ok (.iload_n 3, 1) := by decide +kernel
theorem d_C_shareOf_17 : decode b_C_shareOf 17 = .ok (.if_icmp .ge 10, 3) := by decide +kernel
theorem d_C_shareOf_20 : decode b_C_shareOf 20 = .ok (.aload_n 1, 1) := by decide +kernel
theorem d_C_shareOf_21 : decode b_C_shareOf 21 = .ok (.getfield 77, 3) := by decide +kernel
theorem d_C_shareOf_24 : decode b_C_shareOf 24 = .ok (.goto 4, 3) := by decide +kernel
theorem d_C_shareOf_27 : decode b_C_shareOf 27 = .ok (.iload_n 3, 1) := by decide +kernel
theorem d_C_shareOf_28 : decode b_C_shareOf 28 = .ok (.ireturn, 1) := by decide +kernel
theorem d_C_quarterBegin_0 : decode b_C_quarterBegin 0 = .ok (.iconst 0, 1) := by decide +kernel
theorem d_C_quarterBegin_1 : decode b_C_quarterBegin 1 = .ok (.aload_n 0, 1) := by decide +kernel
theorem d_C_quarterBegin_2 : decode b_C_quarterBegin 2 = .ok (.getfield 83, 3) := by decide +kernel
theorem d_C_quarterBegin_5 : decode b_C_quarterBegin 5 = .ok (.iload_n 1, 1) := by decide +kernel
theorem d_C_quarterBegin_6 : decode b_C_quarterBegin 6 = .ok (.iload_n 2, 1) := by decide +kernel
theorem d_C_quarterBegin_7 : decode b_C_quarterBegin 7 = .ok (.imul, 1) := by decide +kernel
theorem d_C_quarterBegin_8 : decode b_C_quarterBegin 8 = .ok (.isub, 1) := by decide +kernel
theorem d_C_quarterBegin_9 : decode b_C_quarterBegin 9 = .ok (.invokestatic 136, 3) := by decide +kernel
theorem d_C_quarterBegin_12 : decode b_C_quarterBegin 12 = .ok (.ireturn, 1) := by decide +kernel
theorem d_C_costOfMinutes_0 : decode b_C_costOfMinutes 0 = .ok (.lconst 0, 1) := by decide +kernel
theorem d_C_costOfMinutes_1 : decode b_C_costOfMinutes 1 = .ok (.lstore 4, 2) := by decide +kernel
theorem d_C_costOfMinutes_3 : decode b_C_costOfMinutes 3 = .ok (.iload_n 2, 1) := by decide +kernel
theorem d_C_costOfMinutes_4 : decode b_C_costOfMinutes 4 = .ok (.istore 6, 2) := by decide +kernel
theorem d_C_costOfMinutes_6 : decode b_C_costOfMinutes 6 = .ok (.iload 6, 2) := by decide +kernel
theorem d_C_costOfMinutes_8 : decode b_C_costOfMinutes 8 = .ok (.iload_n 3, 1) := by decide +kernel
theorem d_C_costOfMinutes_9 : decode b_C_costOfMinutes 9 = .ok (.if_icmp .ge 31, 3) := by decide +kernel
theorem d_C_costOfMinutes_12 : decode b_C_costOfMinutes 12 = .ok (.lload 4, 2) := by decide +kernel
theorem d_C_costOfMinutes_14 : decode b_C_costOfMinutes 14 = .ok (.aload_n 1, 1) := by decide +kernel
theorem d_C_costOfMinutes_15 : decode b_C_costOfMinutes 15 = .ok (.getfield 77, 3) := by decide +kernel
theorem d_C_costOfMinutes_18 : decode b_C_costOfMinutes 18 = .ok (.i2l, 1) := by decide +kernel
theorem d_C_costOfMinutes_19 : decode b_C_costOfMinutes 19 = .ok (.aload_n 0, 1) := by decide +kernel
theorem d_C_costOfMinutes_20 : decode b_C_costOfMinutes 20 = .ok (.getfield 46, 3) := by decide +kernel
theorem d_C_costOfMinutes_23 : decode b_C_costOfMinutes 23 = .ok (.iload 6, 2) := by decide +kernel
theorem d_C_costOfMinutes_25 : decode b_C_costOfMinutes 25 = .ok (.bipush 60, 2) := by decide +kernel
theorem d_C_costOfMinutes_27 : decode b_C_costOfMinutes 27 = .ok (.idiv, 1) := by decide +kernel
theorem d_C_costOfMinutes_28 : decode b_C_costOfMinutes 28 = .ok (.iaload, 1) := by decide +kernel
theorem d_C_costOfMinutes_29 : decode b_C_costOfMinutes 29 = .ok (.i2l, 1) := by decide +kernel
theorem d_C_costOfMinutes_30 : decode b_C_costOfMinutes 30 = .ok (.lmul, 1) := by decide +kernel
theorem d_C_costOfMinutes_31 : decode b_C_costOfMinutes 31 = .ok (.ladd, 1) := by decide +kernel
theorem d_C_costOfMinutes_32 : decode b_C_costOfMinutes 32 = .ok (.lstore 4, 2) := by decide +kernel
theorem d_C_costOfMinutes_34 : decode b_C_costOfMinutes 34 = .ok (.iinc 6 1, 3) := by decide +kernel
theorem d_C_costOfMinutes_37 : decode b_C_costOfMinutes 37 = .ok (.goto (-31), 3) := by decide +kernel
theorem d_C_costOfMinutes_40 : decode b_C_costOfMinutes 40 = .ok (.lload 4, 2) := by decide +kernel
theorem d_C_costOfMinutes_42 : decode b_C_costOfMinutes 42 = .ok (.lreturn, 1) := by decide +kernel
theorem d_C_weighSets_0 : decode b_C_weighSets 0 = .ok (.aload_n 0, 1) := by decide +kernel
theorem d_C_weighSets_1 : decode b_C_weighSets 1 = .ok (.getfield 49, 3) := by decide +kernel
theorem d_C_weighSets_4 : decode b_C_weighSets 4 = .ok (.iconst 0, 1) := by decide +kernel
theorem d_C_weighSets_5 : decode b_C_weighSets 5 = .ok (.aload_n 0, 1) := by decide +kernel
theorem d_C_weighSets_6 : decode b_C_weighSets 6 = .ok (.aload_n 1, 1) := by decide +kernel
theorem d_C_weighSets_7 : decode b_C_weighSets 7 = .ok (.aload_n 1, 1) := by decide +kernel
theorem d_C_weighSets_8 : decode b_C_weighSets 8 = .ok (.getfield 74, 3) := by decide +kernel
theorem d_C_weighSets_11 : decode b_C_weighSets 11 = .ok (.iconst 0, 1) := by decide +kernel
theorem d_C_weighSets_12 : decode b_C_weighSets 12 = .ok (.aload_n 1, 1) := by decide +kernel
theorem d_C_weighSets_13 : decode b_C_weighSets 13 = .ok (.iload_n 2, 1) := by decide +kernel
theorem d_C_weighSets_14 : decode b_C_weighSets 14 = .ok (.iload_n 3, 1) := by decide +kernel
theorem d_C_weighSets_15 : decode b_C_weighSets 15 = .ok (.invokestatic 150, 3) := by decide +kernel
theorem d_C_weighSets_18 : decode b_C_weighSets 18 = .ok (.iconst 0, 1) := by decide +kernel
theorem d_C_weighSets_19 : decode b_C_weighSets 19 = .ok (.invokevirtual 154, 3) := by decide +kernel
theorem d_C_weighSets_22 : decode b_C_weighSets 22 = .ok (.iastore, 1) := by decide +kernel
theorem d_C_weighSets_23 : decode b_C_weighSets 23 = .ok (.aload_n 0, 1) := by decide +kernel
theorem d_C_weighSets_24 : decode b_C_weighSets 24 = .ok (.getfield 52, 3) := by decide +kernel
theorem d_C_weighSets_27 : decode b_C_weighSets 27 = .ok (.iconst 0, 1) := by decide +kernel
theorem d_C_weighSets_28 : decode b_C_weighSets 28 = .ok (.lconst 0, 1) := by decide +kernel
theorem d_C_weighSets_29 : decode b_C_weighSets 29 = .ok (.lastore, 1) := by decide +kernel
theorem d_C_weighSets_30 : decode b_C_weighSets 30 = .ok (.iconst 0, 1) := by decide +kernel
theorem d_C_weighSets_31 : decode b_C_weighSets 31 = .ok (.istore 4, 2) := by decide +kernel
theorem d_C_weighSets_33 : decode b_C_weighSets 33 = .ok (.iload 4, 2) := by decide +kernel
theorem d_C_weighSets_35 : decode b_C_weighSets 35 = .ok (.iload_n 2, 1) := by decide +kernel
theorem d_C_weighSets_36 : decode b_C_weighSets 36 = .ok (.if_icmp .ge 139, 3) := by decide +kernel
theorem d_C_weighSets_39 : decode b_C_weighSets 39 = .ok (.aload_n 1, 1) := by decide +kernel
theorem d_C_weighSets_40 : decode b_C_weighSets 40 = .ok (.iload_n 2, 1) := by decide +kernel
theorem d_C_weighSets_41 : decode b_C_weighSets 41 = .ok (.iload 4, 2) := by decide +kernel
theorem d_C_weighSets_43 : decode b_C_weighSets 43 = .ok (.isub, 1) := by decide +kernel
theorem d_C_weighSets_44 : decode b_C_weighSets 44 = .ok (.iload_n 3, 1) := by decide +kernel
theorem d_C_weighSets_45 : decode b_C_weighSets 45 = .ok (.invokestatic 150, 3) := by decide +kernel
theorem d_C_weighSets_48 : decode b_C_weighSets 48 = .ok (.istore 5, 2) := by decide +kernel
theorem d_C_weighSets_50 : decode b_C_weighSets 50 = .ok (.aload_n 1, 1) := by decide +kernel
theorem d_C_weighSets_51 : decode b_C_weighSets 51 = .ok (.iload_n 2, 1) := by decide +kernel
theorem d_C_weighSets_52 : decode b_C_weighSets 52 = .ok (.iload 4, 2) := by decide +kernel
theorem d_C_weighSets_54 : decode b_C_weighSets 54 = .ok (.isub, 1) := by decide +kernel
theorem d_C_weighSets_55 : decode b_C_weighSets 55 = .ok (.iconst 1, 1) := by decide +kernel
theorem d_C_weighSets_56 : decode b_C_weighSets 56 = .ok (.isub, 1) := by decide +kernel
theorem d_C_weighSets_57 : decode b_C_weighSets 57 = .ok (.iload_n 3, 1) := by decide +kernel
theorem d_C_weighSets_58 : decode b_C_weighSets 58 = .ok (.invokestatic 150, 3) := by decide +kernel
theorem d_C_weighSets_61 : decode b_C_weighSets 61 = .ok (.istore 6, 2) := by decide +kernel
theorem d_C_weighSets_63 : decode b_C_weighSets 63 = .ok (.aload_n 0, 1) := by decide +kernel
theorem d_C_weighSets_64 : decode b_C_weighSets 64 = .ok (.aload_n 1, 1) := by decide +kernel
theorem d_C_weighSets_65 : decode b_C_weighSets 65 = .ok (.iload 5, 2) := by decide +kernel
theorem d_C_weighSets_67 : decode b_C_weighSets 67 = .ok (.iload 6, 2) := by decide +kernel
theorem d_C_weighSets_69 : decode b_C_weighSets 69 = .ok (.invokevirtual 158, 3) := by decide +kernel
theorem d_C_weighSets_72 : decode b_C_weighSets 72 = .ok (.lstore 7, 2) := by decide +kernel
theorem d_C_weighSets_74 : decode b_C_weighSets 74 = .ok (.iconst 1, 1) := by decide +kernel
theorem d_C_weighSets_75 : decode b_C_weighSets 75 = .ok (.iload 4, 2) := by decide +kernel
theorem d_C_weighSets_77 : decode b_C_weighSets 77 = .ok (.ishl, 1) := by decide +kernel
theorem d_C_weighSets_78 : decode b_C_weighSets 78 = .ok (.istore 9, 2) := by decide +kernel
theorem d_C_weighSets_80 : decode b_C_weighSets 80 = .ok (.iconst 0, 1) := by decide +kernel
theorem d_C_weighSets_81 : decode b_C_weighSets 81 = .ok (.istore 10, 2) := by decide +kernel
theorem d_C_weighSets_83 : decode b_C_weighSets 83 = .ok (.iload 10, 2) := by decide +kernel
theorem d_C_weighSets_85 : decode b_C_weighSets 85 = .ok (.iload 9, 2) := by decide +kernel
theorem d_C_weighSets_87 : decode b_C_weighSets 87 = .ok (.if_icmp .ge 82, 3) := by decide +kernel
theorem d_C_weighSets_90 : decode b_C_weighSets 90 = .ok (.aload_n 0, 1) := by decide +kernel
theorem d_C_weighSets_91 : decode b_C_weighSets 91 = .ok (.getfield 49, 3) := by decide +kernel
theorem d_C_weighSets_94 : decode b_C_weighSets 94 = .ok (.iload 10, 2) := by decide +kernel
theorem d_C_weighSets_96 : decode b_C_weighSets 96 = .ok (.iaload, 1) := by decide +kernel
theorem d_C_weighSets_97 : decode b_C_weighSets 97 = .ok (.istore 11, 2) := by decide +kernel
theorem d_C_weighSets_99 : decode b_C_weighSets 99 = .ok (.aload_n 0, 1) := by decide +kernel
theorem d_C_weighSets_100 : decode b_C_weighSets 100 = .ok (.getfield 49, 3) := by decide +kernel
theorem d_C_weighSets_103 : decode b_C_weighSets 103 = .ok (.iload 10, 2) := by decide +kernel
theorem d_C_weighSets_105 : decode b_C_weighSets 105 = .ok (.iload 9, 2) := by decide +kernel
theorem d_C_weighSets_107 : decode b_C_weighSets 107 = .ok (.iadd, 1) := by decide +kernel
theorem d_C_weighSets_108 : decode b_C_weighSets 108 = .ok (.aload_n 0, 1) := by decide +kernel
theorem d_C_weighSets_109 : decode b_C_weighSets 109 = .ok (.aload_n 1, 1) := by decide +kernel
theorem d_C_weighSets_110 : decode b_C_weighSets 110 = .ok (.iload 11, 2) := by decide +kernel
theorem d_C_weighSets_112 : decode b_C_weighSets 112 = .ok (.iload 5, 2) := by decide +kernel
theorem d_C_weighSets_114 : decode b_C_weighSets 114 = .ok (.iload 6, 2) := by decide +kernel
theorem d_C_weighSets_116 : decode b_C_weighSets 116 = .ok (.aload_n 1, 1) := by decide +kernel
theorem d_C_weighSets_117 : decode b_C_weighSets 117 = .ok (.getfield 77, 3) := by decide +kernel
theorem d_C_weighSets_120 : decode b_C_weighSets 120 = .ok (.invokevirtual 154, 3) := by decide +kernel
theorem d_C_weighSets_123 : decode b_C_weighSets 123 = .ok (.iastore, 1) := by decide +kernel
theorem d_C_weighSets_124 : decode b_C_weighSets 124 = .ok (.aload_n 0, 1) := by decide +kernel
theorem d_C_weighSets_125 : decode b_C_weighSets 125 = .ok (.getfield 52, 3) := by decide +kernel
theorem d_C_weighSets_128 : decode b_C_weighSets 128 = .ok (.iload 10, 2) := by decide +kernel
theorem d_C_weighSets_130 : decode b_C_weighSets 130 = .ok (.iload 9, 2) := by decide +kernel
theorem d_C_weighSets_132 : decode b_C_weighSets 132 = .ok (.iadd, 1) := by decide +kernel
theorem d_C_weighSets_133 : decode b_C_weighSets 133 = .ok (.aload_n 0, 1) := by decide +kernel
theorem d_C_weighSets_134 : decode b_C_weighSets 134 = .ok (.getfield 52, 3) := by decide +kernel
theorem d_C_weighSets_137 : decode b_C_weighSets 137 = .ok (.iload 10, 2) := by decide +kernel
theorem d_C_weighSets_139 : decode b_C_weighSets 139 = .ok (.laload, 1) := by decide +kernel
theorem d_C_weighSets_140 : decode b_C_weighSets 140 = .ok (.lload 7, 2) := by decide +kernel
theorem d_C_weighSets_142 : decode b_C_weighSets 142 = .ok (.ladd, 1) := by decide +kernel
theorem d_C_weighSets_143 : decode b_C_weighSets 143 = .ok (.lastore, 1) := by decide +kernel
theorem d_C_weighSets_144 : decode b_C_weighSets 144 = .ok (.aload_n 0, 1) := by decide +kernel
theorem d_C_weighSets_145 : decode b_C_weighSets 145 = .ok (.getfield 49, 3) := by decide +kernel
theorem d_C_weighSets_148 : decode b_C_weighSets 148 = .ok (.iload 10, 2) := by decide +kernel
theorem d_C_weighSets_150 : decode b_C_weighSets 150 = .ok (.aload_n 0, 1) := by decide +kernel
theorem d_C_weighSets_151 : decode b_C_weighSets 151 = .ok (.aload_n 1, 1) := by decide +kernel
theorem d_C_weighSets_152 : decode b_C_weighSets 152 = .ok (.iload 11, 2) := by decide +kernel
theorem d_C_weighSets_154 : decode b_C_weighSets 154 = .ok (.iload 5, 2) := by decide +kernel
theorem d_C_weighSets_156 : decode b_C_weighSets 156 = .ok (.iload 6, 2) := by decide +kernel
theorem d_C_weighSets_158 : decode b_C_weighSets 158 = .ok (.iconst 0, 1) := by decide +kernel
theorem d_C_weighSets_159 : decode b_C_weighSets 159 = .ok (.invokevirtual 154, 3) := by decide +kernel
theorem d_C_weighSets_162 : decode b_C_weighSets 162 = .ok (.iastore, 1) := by decide +kernel
theorem d_C_weighSets_163 : decode b_C_weighSets 163 = .ok (.iinc 10 1, 3) := by decide +kernel
theorem d_C_weighSets_166 : decode b_C_weighSets 166 = .ok (.goto (-83), 3) := by decide +kernel
theorem d_C_weighSets_169 : decode b_C_weighSets 169 = .ok (.iinc 4 1, 3) := by decide +kernel
theorem d_C_weighSets_172 : decode b_C_weighSets 172 = .ok (.goto (-139), 3) := by decide +kernel
theorem d_C_weighSets_175 : decode b_C_weighSets 175 = .ok (.return_, 1) := by decide +kernel
theorem d_M_init_0 : decode b_M_init 0 = .ok (.aload_n 0, 1) := by decide +kernel
theorem d_M_init_1 : decode b_M_init 1 = .ok (.invokespecial 1, 3) := by decide +kernel
theorem d_M_init_4 : decode b_M_init 4 = .ok (.aload_n 0, 1) := by decide +kernel
theorem d_M_init_5 : decode b_M_init 5 = .ok (.bipush 6, 2) := by decide +kernel
theorem d_M_init_7 : decode b_M_init 7 = .ok (.newarray .int, 2) := by decide +kernel
theorem d_M_init_9 : decode b_M_init 9 = .ok (.putfield 7, 3) := by decide +kernel
theorem d_M_init_12 : decode b_M_init 12 = .ok (.aload_n 0, 1) := by decide +kernel
theorem d_M_init_13 : decode b_M_init 13 = .ok (.bipush 6, 2) := by decide +kernel
theorem d_M_init_15 : decode b_M_init 15 = .ok (.newarray .int, 2) := by decide +kernel
theorem d_M_init_17 : decode b_M_init 17 = .ok (.putfield 13, 3) := by decide +kernel
theorem d_M_init_20 : decode b_M_init 20 = .ok (.aload_n 0, 1) := by decide +kernel
theorem d_M_init_21 : decode b_M_init 21 = .ok (.bipush 6, 2) := by decide +kernel
theorem d_M_init_23 : decode b_M_init 23 = .ok (.newarray .int, 2) := by decide +kernel
theorem d_M_init_25 : decode b_M_init 25 = .ok (.putfield 16, 3) := by decide +kernel
theorem d_M_init_28 : decode b_M_init 28 = .ok (.aload_n 0, 1) := by decide +kernel
theorem d_M_init_29 : decode b_M_init 29 = .ok (.bipush 6, 2) := by decide +kernel
theorem d_M_init_31 : decode b_M_init 31 = .ok (.newarray .int, 2) := by decide +kernel
theorem d_M_init_33 : decode b_M_init 33 = .ok (.putfield 19, 3) := by decide +kernel
theorem d_M_init_36 : decode b_M_init 36 = .ok (.aload_n 0, 1) := by decide +kernel
theorem d_M_init_37 : decode b_M_init 37 = .ok (.bipush 6, 2) := by decide +kernel
theorem d_M_init_39 : decode b_M_init 39 = .ok (.newarray .int, 2) := by decide +kernel
theorem d_M_init_41 : decode b_M_init 41 = .ok (.putfield 22, 3) := by decide +kernel
theorem d_M_init_44 : decode b_M_init 44 = .ok (.aload_n 0, 1) := by decide +kernel
theorem d_M_init_45 : decode b_M_init 45 = .ok (.bipush 6, 2) := by decide +kernel
theorem d_M_init_47 : decode b_M_init 47 = .ok (.newarray .int, 2) := by decide +kernel
theorem d_M_init_49 : decode b_M_init 49 = .ok (.putfield 25, 3) := by decide +kernel
theorem d_M_init_52 : decode b_M_init 52 = .ok (.aload_n 0, 1) := by decide +kernel
theorem d_M_init_53 : decode b_M_init 53 = .ok (.bipush 6, 2) := by decide +kernel
theorem d_M_init_55 : decode b_M_init 55 = .ok (.newarray .int, 2) := by decide +kernel
theorem d_M_init_57 : decode b_M_init 57 = .ok (.putfield 28, 3) := by decide +kernel
theorem d_M_init_60 : decode b_M_init 60 = .ok (.aload_n 0, 1) := by decide +kernel
theorem d_M_init_61 : decode b_M_init 61 = .ok (.bipush 6, 2) := by decide +kernel
theorem d_M_init_63 : decode b_M_init 63 = .ok (.newarray .long, 2) := by decide +kernel
theorem d_M_init_65 : decode b_M_init 65 = .ok (.putfield 31, 3) := by decide +kernel
theorem d_M_init_68 : decode b_M_init 68 = .ok (.aload_n 0, 1) := by decide +kernel
theorem d_M_init_69 : decode b_M_init 69 = .ok (.bipush 6, 2) := by decide +kernel
theorem d_M_init_71 : decode b_M_init 71 = .ok (.newarray .long, 2) := by decide +kernel
theorem d_M_init_73 : decode b_M_init 73 = .ok (.putfield 35, 3) := by decide +kernel
theorem d_M_init_76 : decode b_M_init 76 = .ok (.aload_n 0, 1) := by decide +kernel
theorem d_M_init_77 : decode b_M_init 77 = .ok (.bipush 24, 2) := by decide +kernel
theorem d_M_init_79 : decode b_M_init 79 = .ok (.newarray .int, 2) := by decide +kernel
theorem d_M_init_81 : decode b_M_init 81 = .ok (.putfield 38, 3) := by decide +kernel
theorem d_M_init_84 : decode b_M_init 84 = .ok (.aload_n 0, 1) := by decide +kernel
theorem d_M_init_85 : decode b_M_init 85 = .ok (.bipush 24, 2) := by decide +kernel
theorem d_M_init_87 : decode b_M_init 87 = .ok (.newarray .int, 2) := by decide +kernel
theorem d_M_init_89 : decode b_M_init 89 = .ok (.putfield 41, 3) := by decide +kernel
theorem d_M_init_92 : decode b_M_init 92 = .ok (.aload_n 0, 1) := by decide +kernel
theorem d_M_init_93 : decode b_M_init 93 = .ok (.ldc 44, 2) := by decide +kernel
theorem d_M_init_95 : decode b_M_init 95 = .ok (.putfield 45, 3) := by decide +kernel
theorem d_M_init_98 : decode b_M_init 98 = .ok (.aload_n 0, 1) := by decide +kernel
theorem d_M_init_99 : decode b_M_init 99 = .ok (.bipush 24, 2) := by decide +kernel
theorem d_M_init_101 : decode b_M_init 101 = .ok (.newarray .int, 2) := by decide +kernel
theorem d_M_init_103 : decode b_M_init 103 = .ok (.putfield 49, 3) := by decide +kernel
theorem d_M_init_106 : decode b_M_init 106 = .ok (.aload_n 0, 1) := by decide +kernel
theorem d_M_init_107 : decode b_M_init 107 = .ok (.iconst 1, 1) := by decide +kernel
theorem d_M_init_108 : decode b_M_init 108 = .ok (.putfield 52, 3) := by decide +kernel
theorem d_M_init_111 : decode b_M_init 111 = .ok (.aload_n 0, 1) := by decide +kernel
theorem d_M_init_112 : decode b_M_init 112 = .ok (.iconst 2, 1) := by decide +kernel
theorem d_M_init_113 : decode b_M_init 113 = .ok (.putfield 55, 3) := by decide +kernel
theorem d_M_init_116 : decode b_M_init 116 = .ok (.aload_n 0, 1) := by decide +kernel
theorem d_M_init_117 : decode b_M_init 117 = .ok (.sipush 1440, 3) := by decide +kernel
theorem d_M_init_120 : decode b_M_init 120 = .ok (.newarray .int, 2) := by decide +kernel
theorem d_M_init_122 : decode b_M_init 122 = .ok (.putfield 58, 3) := by decide +kernel
theorem d_M_init_125 : decode b_M_init 125 = .ok (.aload_n 0, 1) := by decide +kernel
theorem d_M_init_126 : decode b_M_init 126 = .ok (.sipush 1440, 3) := by decide +kernel
theorem d_M_init_129 : decode b_M_init 129 = .ok (.newarray .int, 2) := by decide +kernel
theorem d_M_init_131 : decode b_M_init 131 = .ok (.putfield 61, 3) := by decide +kernel
theorem d_M_init_134 : decode b_M_init 134 = .ok (.aload_n 0, 1) := by decide +kernel
theorem d_M_init_135 : decode b_M_init 135 = .ok (.bipush 6, 2) := by decide +kernel
theorem d_M_init_137 : decode b_M_init 137 = .ok (.newarray .int, 2) := by decide +kernel
theorem d_M_init_139 : decode b_M_init 139 = .ok (.putfield 64, 3) := by decide +kernel
theorem d_M_init_142 : decode b_M_init 142 = .ok (.aload_n 0, 1) := by decide +kernel
theorem d_M_init_143 : decode b_M_init 143 = .ok (.bipush 6, 2) := by decide +kernel
theorem d_M_init_145 : decode b_M_init 145 = .ok (.newarray .boolean, 2) := by decide +kernel
theorem d_M_init_147 : decode b_M_init 147 = .ok (.putfield 67, 3) := by decide +kernel
theorem d_M_init_150 : decode b_M_init 150 = .ok (.aload_n 0, 1) := by decide +kernel
theorem d_M_init_151 : decode b_M_init 151 = .ok (.sipush 8700, 3) := by decide +kernel
theorem d_M_init_154 : decode b_M_init 154 = .ok (.newarray .int, 2) := by decide +kernel
theorem d_M_init_156 : decode b_M_init 156 = .ok (.putfield 71, 3) := by decide +kernel
theorem d_M_init_159 : decode b_M_init 159 = .ok (.aload_n 0, 1) := by decide +kernel
theorem d_M_init_160 : decode b_M_init 160 = .ok (.bipush 6, 2) := by decide +kernel
theorem d_M_init_162 : decode b_M_init 162 = .ok (.newarray .boolean, 2) := by decide +kernel
theorem d_M_init_164 : decode b_M_init 164 = .ok (.putfield 74, 3) := by decide +kernel
theorem d_M_init_167 : decode b_M_init 167 = .ok (.return_, 1) := by decide +kernel
theorem d_M_thrown_0 : decode b_M_thrown 0 = .ok (.aload_n 0, 1) := by decide +kernel
theorem d_M_thrown_1 : decode b_M_thrown 1 = .ok (.getfield 77, 3) := by decide +kernel
theorem d_M_thrown_4 : decode b_M_thrown 4 = .ok (.ireturn, 1) := by decide +kernel
theorem d_M_fails_0 : decode b_M_fails 0 = .ok (.aload_n 0, 1) := by decide +kernel
theorem d_M_fails_1 : decode b_M_fails 1 = .ok (.getfield 77, 3) := by decide +kernel
theorem d_M_fails_4 : decode b_M_fails 4 = .ok (.ifCond .ne 12, 3) := by decide +kernel
theorem d_M_fails_7 : decode b_M_fails 7 = .ok (.iload_n 1, 1) := by decide +kernel
theorem d_M_fails_8 : decode b_M_fails 8 = .ok (.ifCond .eq 8, 3) := by decide +kernel
theorem d_M_fails_11 : decode b_M_fails 11 = .ok (.aload_n 0, 1) := by decide +kernel
theorem d_M_fails_12 : decode b_M_fails 12 = .ok (.iload_n 2, 1) := by decide +kernel
theorem d_M_fails_13 : decode b_M_fails 13 = .ok (.putfield 77, 3) := by decide +kernel
theorem d_M_fails_16 : decode b_M_fails 16 = .ok (.aload_n 0, 1) := by decide +kernel
theorem d_M_fails_17 : decode b_M_fails 17 = .ok (.getfield 77, 3) := by decide +kernel
theorem d_M_fails_20 : decode b_M_fails 20 = .ok (.ifCond .le 7, 3) := by decide +kernel
theorem d_M_fails_23 : decode b_M_fails 23 = .ok (.iconst 1, 1) := by decide +kernel
theorem d_M_fails_24 : decode b_M_fails 24 = .ok (.goto 4, 3) := by decide +kernel
theorem d_M_fails_27 : decode b_M_fails 27 = .ok (.iconst 0, 1) := by decide +kernel
theorem d_M_fails_28 : decode b_M_fails 28 = .ok (.ireturn, 1) := by decide +kernel
theorem d_M_within_0 : decode b_M_within 0 = .ok (.iload_n 0, 1) := by decide +kernel
theorem d_M_within_1 : decode b_M_within 1 = .ok (.iload_n 1, 1) := by decide +kernel
theorem d_M_within_2 : decode b_M_within 2 = .ok (.if_icmp .lt 12, 3) := by decide +kernel
theorem d_M_within_5 : decode b_M_within 5 = .ok (.iload_n 0, 1) := by decide +kernel
theorem d_M_within_6 : decode b_M_within 6 = .ok (.iload_n 2, 1) := by decide +kernel
theorem d_M_within_7 : decode b_M_within 7 = .ok (.if_icmp .gt 7, 3) := by decide +kernel
theorem d_M_within_10 : decode b_M_within 10 = .ok (.iconst 1, 1) := by decide +kernel
theorem d_M_within_11 : decode b_M_within 11 = .ok (.goto 4, 3) := by decide +kernel
theorem d_M_within_14 : decode b_M_within 14 = .ok (.iconst 0, 1) := by decide +kernel
theorem d_M_within_15 : decode b_M_within 15 = .ok (.ireturn, 1) := by decide +kernel
theorem d_M_isZone_0 : decode b_M_isZone 0 = .ok (.iload_n 1, 1) := by decide +kernel
theorem d_M_isZone_1 : decode b_M_isZone 1 = .ok (.ifCond .lt 15, 3) := by decide +kernel
theorem d_M_isZone_4 : decode b_M_isZone 4 = .ok (.iload_n 1, 1) := by decide +kernel
theorem d_M_isZone_5 : decode b_M_isZone 5 = .ok (.aload_n 0, 1) := by decide +kernel
theorem d_M_isZone_6 : decode b_M_isZone 6 = .ok (.getfield 80, 3) := by decide +kernel
theorem d_M_isZone_9 : decode b_M_isZone 9 = .ok (.if_icmp .ge 7, 3) := by decide +kernel
theorem d_M_isZone_12 : decode b_M_isZone 12 = .ok (.iconst 1, 1) := by decide +kernel
theorem d_M_isZone_13 : decode b_M_isZone 13 = .ok (.goto 4, 3) := by decide +kernel
theorem d_M_isZone_16 : decode b_M_isZone 16 = .ok (.iconst 0, 1) := by decide +kernel
theorem d_M_isZone_17 : decode b_M_isZone 17 = .ok (.ireturn, 1) := by decide +kernel
theorem d_M_zone_0 : decode b_M_zone 0 = .ok (.aload_n 0, 1) := by decide +kernel
theorem d_M_zone_1 : decode b_M_zone 1 = .ok (.iconst 0, 1) := by decide +kernel
theorem d_M_zone_2 : decode b_M_zone 2 = .ok (.putfield 77, 3) := by decide +kernel
theorem d_M_zone_5 : decode b_M_zone 5 = .ok (.aload_n 0, 1) := by decide +kernel
theorem d_M_zone_6 : decode b_M_zone 6 = .ok (.iload_n 1, 1) := by decide +kernel
theorem d_M_zone_7 : decode b_M_zone 7 = .ok (.iconst 1, 1) := by decide +kernel
theorem d_M_zone_8 : decode b_M_zone 8 = .ok (.sipush 1000, 3) := by decide +kernel
theorem d_M_zone_11 : decode b_M_zone 11 = .ok (.invokestatic 83, 3) := by decide +kernel
theorem d_M_zone_14 : decode b_M_zone 14 = .ok (.ifCond .eq 14, 3) := by decide +kernel
theorem d_M_zone_17 : decode b_M_zone 17 = .ok (.iload_n 2, 1) := by decide +kernel
theorem d_M_zone_18 : decode b_M_zone 18 = .ok (.iconst 1, 1) := by decide +kernel
theorem d_M_zone_19 : decode b_M_zone 19 = .ok (.sipush 1000, 3) := by decide +kernel
theorem d_M_zone_22 : decode b_M_zone 22 = .ok (.invokestatic 83, 3) := by decide +kernel
theorem d_M_zone_25 : decode b_M_zone 25 = .ok (.ifCond .ne 7, 3) := by decide +kernel
theorem d_M_zone_28 : decode b_M_zone 28 = .ok (.iconst 1, 1) := by decide +kernel
theorem d_M_zone_29 : decode b_M_zone 29 = .ok (.goto 4, 3) := by decide +kernel
theorem d_M_zone_32 : decode b_M_zone 32 = .ok (.iconst 0, 1) := by decide +kernel
theorem d_M_zone_33 : decode b_M_zone 33 = .ok (.iconst 1, 1) := by decide +kernel
theorem d_M_zone_34 : decode b_M_zone 34 = .ok (.invokevirtual 87, 3) := by decide +kernel
theorem d_M_zone_37 : decode b_M_zone 37 = .ok (.pop, 1) := by decide +kernel
theorem d_M_zone_38 : decode b_M_zone 38 = .ok (.aload_n 0, 1) := by decide +kernel
theorem d_M_zone_39 : decode b_M_zone 39 = .ok (.aload_n 0, 1) := by decide +kernel
theorem d_M_zone_40 : decode b_M_zone 40 = .ok (.getfield 80, 3) := by decide +kernel
theorem d_M_zone_43 : decode b_M_zone 43 = .ok (.bipush 6, 2) := by decide +kernel
theorem d_M_zone_45 : decode b_M_zone 45 = .ok (.if_icmp .ne 7, 3) := by decide +kernel
theorem d_M_zone_48 : decode b_M_zone 48 = .ok (.iconst 1, 1) := by decide +kernel
theorem d_M_zone_49 : decode b_M_zone 49 = .ok (.goto 4, 3) := by decide +kernel
theorem d_M_zone_52 : decode b_M_zone 52 = .ok (.iconst 0, 1) := by decide +kernel
theorem d_M_zone_53 : decode b_M_zone 53 = .ok (.iconst 2, 1) := by decide +kernel
theorem d_M_zone_54 : decode b_M_zone 54 = .ok (.invokevirtual 87, 3) := by decide +kernel
theorem d_M_zone_57 : decode b_M_zone 57 = .ok (.ifCond .eq 5, 3) := by decide +kernel
theorem d_M_zone_60 : decode b_M_zone 60 = .ok (.iconst 0, 1) := by decide +kernel
theorem d_M_zone_61 : decode b_M_zone 61 = .ok (.ireturn, 1) := by decide +kernel
theorem d_M_zone_62 : decode b_M_zone 62 = .ok (.aload_n 0, 1) := by decide +kernel
theorem d_M_zone_63 : decode b_M_zone 63 = .ok (.getfield 7, 3) := by decide +kernel
theorem d_M_zone_66 : decode b_M_zone 66 = .ok (.aload_n 0, 1) := by decide +kernel
theorem d_M_zone_67 : decode b_M_zone 67 = .ok (.getfield 80, 3) := by decide +kernel
theorem d_M_zone_70 : decode b_M_zone 70 = .ok (.iload_n 1, 1) := by decide +kernel
theorem d_M_zone_71 : decode b_M_zone 71 = .ok (.iastore, 1) := by decide +kernel
theorem d_M_zone_72 : decode b_M_zone 72 = .ok (.aload_n 0, 1) := by decide +kernel
theorem d_M_zone_73 : decode b_M_zone 73 = .ok (.getfield 13, 3) := by decide +kernel
theorem d_M_zone_76 : decode b_M_zone 76 = .ok (.aload_n 0, 1) := by decide +kernel
theorem d_M_zone_77 : decode b_M_zone 77 = .ok (.getfield 80, 3) := by decide +kernel
theorem d_M_zone_80 : decode b_M_zone 80 = .ok (.iload_n 2, 1) := by decide +kernel
theorem d_M_zone_81 : decode b_M_zone 81 = .ok (.iastore, 1) := by decide +kernel
theorem d_M_zone_82 : decode b_M_zone 82 = .ok (.aload_n 0, 1) := by decide +kernel
theorem d_M_zone_83 : decode b_M_zone 83 = .ok (.getfield 19, 3) := by decide +kernel
theorem d_M_zone_86 : decode b_M_zone 86 = .ok (.aload_n 0, 1) := by decide +kernel
theorem d_M_zone_87 : decode b_M_zone 87 = .ok (.getfield 80, 3) := by decide +kernel
theorem d_M_zone_90 : decode b_M_zone 90 = .ok (.sipush 1000, 3) := by decide +kernel
theorem d_M_zone_93 : decode b_M_zone 93 = .ok (.iastore, 1) := by decide +kernel
theorem d_M_zone_94 : decode b_M_zone 94 = .ok (.aload_n 0, 1) := by decide +kernel
theorem d_M_zone_95 : decode b_M_zone 95 = .ok (.getfield 25, 3) := by decide +kernel
theorem d_M_zone_98 : decode b_M_zone 98 = .ok (.aload_n 0, 1) := by decide +kernel
theorem d_M_zone_99 : decode b_M_zone 99 = .ok (.getfield 80, 3) := by decide +kernel
theorem d_M_zone_102 : decode b_M_zone 102 = .ok (.iconst (-1), 1) := by decide +kernel
theorem d_M_zone_103 : decode b_M_zone 103 = .ok (.iastore, 1) := by decide +kernel
theorem d_M_zone_104 : decode b_M_zone 104 = .ok (.aload_n 0, 1) := by decide +kernel
theorem d_M_zone_105 : decode b_M_zone 105 = .ok (.getfield 35, 3) := by decide +kernel
theorem d_M_zone_108 : decode b_M_zone 108 = .ok (.aload_n 0, 1) := by decide +kernel
theorem d_M_zone_109 : decode b_M_zone 109 = .ok (.getfield 80, 3) := by decide +kernel
theorem d_M_zone_112 : decode b_M_zone 112 = .ok (.lconst 1, 1) := by decide +kernel
theorem d_M_zone_113 : decode b_M_zone 113 = .ok (.lastore, 1) := by decide +kernel
theorem d_M_zone_114 : decode b_M_zone 114 = .ok (.aload_n 0, 1) := by decide +kernel
theorem d_M_zone_115 : decode b_M_zone 115 = .ok (.dup, 1) := by decide +kernel
theorem d_M_zone_116 : decode b_M_zone 116 = .ok (.getfield 80, 3) := by decide +kernel
theorem d_M_zone_119 : decode b_M_zone 119 = .ok (.iconst 1, 1) := by decide +kernel
theorem d_M_zone_120 : decode b_M_zone 120 = .ok (.iadd, 1) := by decide +kernel
theorem d_M_zone_121 : decode b_M_zone 121 = .ok (.putfield 80, 3) := by decide +kernel
theorem d_M_zone_124 : decode b_M_zone 124 = .ok (.aload_n 0, 1) := by decide +kernel
theorem d_M_zone_125 : decode b_M_zone 125 = .ok (.iconst 0, 1) := by decide +kernel
theorem d_M_zone_126 : decode b_M_zone 126 = .ok (.putfield 91, 3) := by decide +kernel
theorem d_M_zone_129 : decode b_M_zone 129 = .ok (.aload_n 0, 1) := by decide +kernel
theorem d_M_zone_130 : decode b_M_zone 130 = .ok (.getfield 80, 3) := by decide +kernel
theorem d_M_zone_133 : decode b_M_zone 133 = .ok (.iconst 1, 1) := by decide +kernel
theorem d_M_zone_134 : decode b_M_zone 134 = .ok (.isub, 1) := by decide +kernel
theorem d_M_zone_135 : decode b_M_zone 135 = .ok (.ireturn, 1) := by decide +kernel
theorem d_M_set_0 : decode b_M_set 0 = .ok (.aload_n 0, 1) := by decide +kernel
theorem d_M_set_1 : decode b_M_set 1 = .ok (.iconst 0, 1) := by decide +kernel
theorem d_M_set_2 : decode b_M_set 2 = .ok (.putfield 77, 3) := by decide +kernel
theorem d_M_set_5 : decode b_M_set 5 = .ok (.iload_n 2, 1) := by decide +kernel
theorem d_M_set_6 : decode b_M_set 6 = .ok (.ifCond .ne 16, 3) := by decide +kernel
theorem d_M_set_9 : decode b_M_set 9 = .ok (.iload_n 3, 1) := by decide +kernel
theorem d_M_set_10 : decode b_M_set 10 = .ok (.sipush (-10000), 3) := by decide +kernel
theorem d_M_set_13 : decode b_M_set 13 = .ok (.sipush 10000, 3) := by decide +kernel
theorem d_M_set_16 : decode b_M_set 16 = .ok (.invokestatic 83, 3) := by decide +kernel
theorem d_M_set_19 : decode b_M_set 19 = .ok (.ifCond .ne 33, 3) := by decide +kernel
theorem d_M_set_22 : decode b_M_set 22 = .ok (.iload_n 2, 1) := by decide +kernel
theorem d_M_set_23 : decode b_M_set 23 = .ok (.iconst 1, 1) := by decide +kernel
theorem d_M_set_24 : decode b_M_set 24 = .ok (.if_icmp .ne 13, 3) := by decide +kernel
theorem d_M_set_27 : decode b_M_set 27 = .ok (.iload_n 3, 1) := by decide +kernel
theorem d_M_set_28 : decode b_M_set 28 = .ok (.iconst 0, 1) := by decide +kernel
theorem d_M_set_29 : decode b_M_set 29 = .ok (.ldc 44, 2) := by decide +kernel
theorem d_M_set_31 : decode b_M_set 31 = .ok (.invokestatic 83, 3) := by decide +kernel
theorem d_M_set_34 : decode b_M_set 34 = .ok (.ifCond .ne 18, 3) := by decide +kernel
theorem d_M_set_37 : decode b_M_set 37 = .ok (.iload_n 2, 1) := by decide +kernel
theorem d_M_set_38 : decode b_M_set 38 = .ok (.iconst 2, 1) := by decide +kernel
theorem d_M_set_39 : decode b_M_set 39 = .ok (.if_icmp .ne 17, 3) := by decide +kernel
theorem d_M_set_42 : decode b_M_set 42 = .ok (.iload_n 3, 1) := by decide +kernel
theorem d_M_set_43 : decode b_M_set 43 = .ok (.iconst 0, 1) := by decide +kernel
theorem d_M_set_44 : decode b_M_set 44 = .ok (.bipush 9, 2) := by decide +kernel
theorem d_M_set_46 : decode b_M_set 46 = .ok (.invokestatic 83, 3) := by decide +kernel
theorem d_M_set_49 : decode b_M_set 49 = .ok (.ifCond .eq 7, 3) := by decide +kernel
theorem d_M_set_52 : decode b_M_set 52 = .ok (.iconst 1, 1) := by decide +kernel
theorem d_M_set_53 : decode b_M_set 53 = .ok (.goto 4, 3) := by decide +kernel
theorem d_M_set_56 : decode b_M_set 56 = .ok (.iconst 0, 1) := by decide +kernel
theorem d_M_set_57 : decode b_M_set 57 = .ok (.istore 4, 2) := by decide +kernel
theorem d_M_set_59 : decode b_M_set 59 = .ok (.aload_n 0, 1) := by decide +kernel
theorem d_M_set_60 : decode b_M_set 60 = .ok (.aload_n 0, 1) := by decide +kernel
theorem d_M_set_61 : decode b_M_set 61 = .ok (.iload_n 1, 1) := by decide +kernel
theorem d_M_set_62 : decode b_M_set 62 = .ok (.invokevirtual 95, 3) := by decide +kernel
theorem d_M_set_65 : decode b_M_set 65 = .ok (.ifCond .eq 8, 3) := by decide +kernel
theorem d_M_set_68 : decode b_M_set 68 = .ok (.iload 4, 2) := by decide +kernel
theorem d_M_set_70 : decode b_M_set 70 = .ok (.ifCond .ne 7, 3) := by decide +kernel
theorem d_M_set_73 : decode b_M_set 73 = .ok (.iconst 1, 1) := by decide +kernel
theorem d_M_set_74 : decode b_M_set 74 = .ok (.goto 4, 3) := by decide +kernel
theorem d_M_set_77 : decode b_M_set 77 = .ok (.iconst 0, 1) := by decide +kernel
theorem d_M_set_78 : decode b_M_set 78 = .ok (.iconst 1, 1) := by decide +kernel
theorem d_M_set_79 : decode b_M_set 79 = .ok (.invokevirtual 87, 3) := by decide +kernel
theorem d_M_set_82 : decode b_M_set 82 = .ok (.ifCond .eq 5, 3) := by decide +kernel
theorem d_M_set_85 : decode b_M_set 85 = .ok (.iconst 0, 1) := by decide +kernel
theorem d_M_set_86 : decode b_M_set 86 = .ok (.ireturn, 1) := by decide +kernel
theorem d_M_set_87 : decode b_M_set 87 = .ok (.iload_n 2, 1) := by decide +kernel
theorem d_M_set_88 : decode b_M_set 88 = .ok (.ifCond .ne 12, 3) := by decide +kernel
theorem d_M_set_91 : decode b_M_set 91 = .ok (.aload_n 0, 1) := by decide +kernel
theorem d_M_set_92 : decode b_M_set 92 = .ok (.getfield 16, 3) := by decide +kernel
theorem d_M_set_95 : decode b_M_set 95 = .ok (.iload_n 1, 1) := by decide +kernel
theorem d_M_set_96 : decode b_M_set 96 = .ok (.iaload, 1) := by decide +kernel
theorem d_M_set_97 : decode b_M_set 97 = .ok (.goto 23, 3) := by decide +kernel
theorem d_M_set_100 : decode b_M_set 100 = .ok (.iload_n 2, 1) := by decide +kernel
theorem d_M_set_101 : decode b_M_set 101 = .ok (.iconst 1, 1) := by decide +kernel
theorem d_M_set_102 : decode b_M_set 102 = .ok (.if_icmp .ne 12, 3) := by decide +kernel
theorem d_M_set_105 : decode b_M_set 105 = .ok (.aload_n 0, 1) := by decide +kernel
theorem d_M_set_106 : decode b_M_set 106 = .ok (.getfield 19, 3) := by decide +kernel
theorem d_M_set_109 : decode b_M_set 109 = .ok (.iload_n 1, 1) := by decide +kernel
theorem d_M_set_110 : decode b_M_set 110 = .ok (.iaload, 1) := by decide +kernel
theorem d_M_set_111 : decode b_M_set 111 = .ok (.goto 9, 3) := by decide +kernel
theorem d_M_set_114 : decode b_M_set 114 = .ok (.aload_n 0, 1) := by decide +kernel
theorem d_M_set_115 : decode b_M_set 115 = .ok (.getfield 22, 3) := by decide +kernel
theorem d_M_set_118 : decode b_M_set 118 = .ok (.iload_n 1, 1) := by decide +kernel
theorem d_M_set_119 : decode b_M_set 119 = .ok (.iaload, 1) := by decide +kernel
theorem d_M_set_120 : decode b_M_set 120 = .ok (.istore 5, 2) := by decide +kernel
theorem d_M_set_122 : decode b_M_set 122 = .ok (.iload_n 2, 1) := by decide +kernel
theorem d_M_set_148 : decode b_M_set 148 = .ok (.aload_n 0, 1) := by decide +kernel
theorem d_M_set_149 : decode b_M_set 149 = .ok (.getfield 16, 3) := by decide +kernel
theorem d_M_set_152 : decode b_M_set 152 = .ok (.iload_n 1, 1) := by decide +kernel
theorem d_M_set_153 : decode b_M_set 153 = .ok (.iload_n 3, 1) := by decide +kernel
theorem d_M_set_154 : decode b_M_set 154 = .ok (.iastore, 1) := by decide +kernel
theorem d_M_set_155 : decode b_M_set 155 = .ok (.goto 20, 3) := by decide +kernel
theorem d_M_set_158 : decode b_M_set 158 = .ok (.aload_n 0, 1) := by decide +kernel
theorem d_M_set_159 : decode b_M_set 159 = .ok (.getfield 19, 3) := by decide +kernel
theorem d_M_set_162 : decode b_M_set 162 = .ok (.iload_n 1, 1) := by decide +kernel
theorem d_M_set_163 : decode b_M_set 163 = .ok (.iload_n 3, 1) := by decide +kernel
theorem d_M_set_164 : decode b_M_set 164 = .ok (.iastore, 1) := by decide +kernel
theorem d_M_set_165 : decode b_M_set 165 = .ok (.goto 10, 3) := by decide +kernel
theorem d_M_set_168 : decode b_M_set 168 = .ok (.aload_n 0, 1) := by decide +kernel
theorem d_M_set_169 : decode b_M_set 169 = .ok (.getfield 22, 3) := by decide +kernel
theorem d_M_set_172 : decode b_M_set 172 = .ok (.iload_n 1, 1) := by decide +kernel
theorem d_M_set_173 : decode b_M_set 173 = .ok (.iload_n 3, 1) := by decide +kernel
theorem d_M_set_174 : decode b_M_set 174 = .ok (.iastore, 1) := by decide +kernel
theorem d_M_set_175 : decode b_M_set 175 = .ok (.aload_n 0, 1) := by decide +kernel
theorem d_M_set_176 : decode b_M_set 176 = .ok (.iconst 0, 1) := by decide +kernel
theorem d_M_set_177 : decode b_M_set 177 = .ok (.putfield 91, 3) := by decide +kernel
theorem d_M_set_180 : decode b_M_set 180 = .ok (.iload 5, 2) := by decide +kernel
theorem d_M_set_182 : decode b_M_set 182 = .ok (.ireturn, 1) := by decide +kernel
theorem d_M_want_0 : decode b_M_want 0 = .ok (.aload_n 0, 1) := by decide +kernel
theorem d_M_want_1 : decode b_M_want 1 = .ok (.iconst 0, 1) := by decide +kernel
theorem d_M_want_2 : decode b_M_want 2 = .ok (.putfield 77, 3) := by decide +kernel
theorem d_M_want_5 : decode b_M_want 5 = .ok (.aload_n 0, 1) := by decide +kernel
theorem d_M_want_6 : decode b_M_want 6 = .ok (.aload_n 0, 1) := by decide +kernel
theorem d_M_want_7 : decode b_M_want 7 = .ok (.iload_n 1, 1) := by decide +kernel
theorem d_M_want_8 : decode b_M_want 8 = .ok (.invokevirtual 95, 3) := by decide +kernel
theorem d_M_want_11 : decode b_M_want 11 = .ok (.ifCond .eq 27, 3) := by decide +kernel
theorem d_M_want_14 : decode b_M_want 14 = .ok (.iload_n 2, 1) := by decide +kernel
theorem d_M_want_15 : decode b_M_want 15 = .ok (.iconst (-1), 1) := by decide +kernel
theorem d_M_want_16 : decode b_M_want 16 = .ok (.sipush 1439, 3) := by decide +kernel
theorem d_M_want_19 : decode b_M_want 19 = .ok (.invokestatic 83, 3) := by decide +kernel
theorem d_M_want_22 : decode b_M_want 22 = .ok (.ifCond .eq 16, 3) := by decide +kernel
theorem d_M_want_25 : decode b_M_want 25 = .ok (.iload_n 3, 1) := by decide +kernel
theorem d_M_want_26 : decode b_M_want 26 = .ok (.sipush (-10000), 3) := by decide +kernel
theorem d_M_want_29 : decode b_M_want 29 = .ok (.sipush 10000, 3) := by decide +kernel
theorem d_M_want_32 : decode b_M_want 32 = .ok (.invokestatic 83, 3) := by decide +kernel
theorem d_M_want_35 : decode b_M_want 35 = .ok (.ifCond .ne 7, 3) := by decide +kernel
theorem d_M_want_38 : decode b_M_want 38 = .ok (.iconst 1, 1) := by decide +kernel
theorem d_M_want_39 : decode b_M_want 39 = .ok (.goto 4, 3) := by decide +kernel
theorem d_M_want_42 : decode b_M_want 42 = .ok (.iconst 0, 1) := by decide +kernel
theorem d_M_want_43 : decode b_M_want 43 = .ok (.iconst 1, 1) := by decide +kernel
theorem d_M_want_44 : decode b_M_want 44 = .ok (.invokevirtual 87, 3) := by decide +kernel
theorem d_M_want_47 : decode b_M_want 47 = .ok (.ifCond .eq 4, 3) := by decide +kernel
theorem d_M_want_50 : decode b_M_want 50 = .ok (.return_, 1) := by decide +kernel
theorem d_M_want_51 : decode b_M_want 51 = .ok (.aload_n 0, 1) := by decide +kernel
theorem d_M_want_52 : decode b_M_want 52 = .ok (.getfield 25, 3) := by decide +kernel
theorem d_M_want_55 : decode b_M_want 55 = .ok (.iload_n 1, 1) := by decide +kernel
theorem d_M_want_56 : decode b_M_want 56 = .ok (.iload_n 2, 1) := by decide +kernel
theorem d_M_want_57 : decode b_M_want 57 = .ok (.iastore, 1) := by decide +kernel
theorem d_M_want_58 : decode b_M_want 58 = .ok (.aload_n 0, 1) := by decide +kernel
theorem d_M_want_59 : decode b_M_want 59 = .ok (.getfield 28, 3) := by decide +kernel
theorem d_M_want_62 : decode b_M_want 62 = .ok (.iload_n 1, 1) := by decide +kernel
theorem d_M_want_63 : decode b_M_want 63 = .ok (.iload_n 3, 1) := by decide +kernel
theorem d_M_want_64 : decode b_M_want 64 = .ok (.iastore, 1) := by decide +kernel
theorem d_M_want_65 : decode b_M_want 65 = .ok (.aload_n 0, 1) := by decide +kernel
theorem d_M_want_66 : decode b_M_want 66 = .ok (.iconst 0, 1) := by decide +kernel
theorem d_M_want_67 : decode b_M_want 67 = .ok (.putfield 91, 3) := by decide +kernel
theorem d_M_want_70 : decode b_M_want 70 = .ok (.return_, 1) := by decide +kernel
theorem d_M_outside_0 : decode b_M_outside 0 = .ok (.aload_n 0, 1) := by decide +kernel
theorem d_M_outside_1 : decode b_M_outside 1 = .ok (.iconst 0, 1) := by decide +kernel
theorem d_M_outside_2 : decode b_M_outside 2 = .ok (.putfield 77, 3) := by decide +kernel
theorem d_M_outside_5 : decode b_M_outside 5 = .ok (.aload_n 0, 1) := by decide +kernel
theorem d_M_outside_6 : decode b_M_outside 6 = .ok (.iload_n 1, 1) := by decide +kernel
theorem d_M_outside_7 : decode b_M_outside 7 = .ok (.iconst 0, 1) := by decide +kernel
theorem d_M_outside_8 : decode b_M_outside 8 = .ok (.sipush 1439, 3) := by decide +kernel
theorem d_M_outside_11 : decode b_M_outside 11 = .ok (.invokestatic 83, 3) := by decide +kernel
theorem d_M_outside_14 : decode b_M_outside 14 = .ok (.ifCond .eq 16, 3) := by decide +kernel
theorem d_M_outside_17 : decode b_M_outside 17 = .ok (.iload_n 2, 1) := by decide +kernel
theorem d_M_outside_18 : decode b_M_outside 18 = .ok (.sipush (-10000), 3) := by decide +kernel
theorem d_M_outside_21 : decode b_M_outside 21 = .ok (.sipush 10000, 3) := by decide +kernel
theorem d_M_outside_24 : decode b_M_outside 24 = .ok (.invokestatic 83, 3) := by decide +kernel
theorem d_M_outside_27 : decode b_M_outside 27 = .ok (.ifCond .ne 7, 3) := by decide +kernel
theorem d_M_outside_30 : decode b_M_outside 30 = .ok (.iconst 1, 1) := by decide +kernel
theorem d_M_outside_31 : decode b_M_outside 31 = .ok (.goto 4, 3) := by decide +kernel
theorem d_M_outside_34 : decode b_M_outside 34 = .ok (.iconst 0, 1) := by decide +kernel
theorem d_M_outside_35 : decode b_M_outside 35 = .ok (.iconst 1, 1) := by decide +kernel
theorem d_M_outside_36 : decode b_M_outside 36 = .ok (.invokevirtual 87, 3) := by decide +kernel
theorem d_M_outside_39 : decode b_M_outside 39 = .ok (.pop, 1) := by decide +kernel
theorem d_M_outside_40 : decode b_M_outside 40 = .ok (.aload_n 0, 1) := by decide +kernel
theorem d_M_outside_41 : decode b_M_outside 41 = .ok (.aload_n 0, 1) := by decide +kernel
theorem d_M_outside_42 : decode b_M_outside 42 = .ok (.getfield 99, 3) := by decide +kernel
theorem d_M_outside_45 : decode b_M_outside 45 = .ok (.bipush 24, 2) := by decide +kernel
theorem d_M_outside_47 : decode b_M_outside 47 = .ok (.if_icmp .eq 25, 3) := by decide +kernel
theorem d_M_outside_50 : decode b_M_outside 50 = .ok (.aload_n 0, 1) := by decide +kernel
theorem d_M_outside_51 : decode b_M_outside 51 = .ok (.getfield 99, 3) := by decide +kernel
theorem d_M_outside_54 : decode b_M_outside 54 = .ok (.ifCond .le 22, 3) := by decide +kernel
theorem d_M_outside_57 : decode b_M_outside 57 = .ok (.aload_n 0, 1) := by decide +kernel
theorem d_M_outside_58 : decode b_M_outside 58 = .ok (.getfield 38, 3) := by decide +kernel
theorem d_M_outside_61 : decode b_M_outside 61 = .ok (.aload_n 0, 1) := by decide +kernel
theorem d_M_outside_62 : decode b_M_outside 62 = .ok (.getfield 99, 3) := by decide +kernel
theorem d_M_outside_65 : decode b_M_outside 65 = .ok (.iconst 1, 1) := by decide +kernel
theorem d_M_outside_66 : decode b_M_outside 66 = .ok (.isub, 1) := by decide +kernel
theorem d_M_outside_67 : decode b_M_outside 67 = .ok (.iaload, 1) := by decide +kernel
theorem d_M_outside_68 : decode b_M_outside 68 = .ok (.iload_n 1, 1) := by decide +kernel
theorem d_M_outside_69 : decode b_M_outside 69 = .ok (.if_icmp .lt 7, 3) := by decide +kernel
theorem d_M_outside_72 : decode b_M_outside 72 = .ok (.iconst 1, 1) := by decide +kernel
theorem d_M_outside_73 : decode b_M_outside 73 = .ok (.goto 4, 3) := by decide +kernel
theorem d_M_outside_76 : decode b_M_outside 76 = .ok (.iconst 0, 1) := by decide +kernel
theorem d_M_outside_77 : decode b_M_outside 77 = .ok (.iconst 2, 1) := by decide +kernel
theorem d_M_outside_78 : decode b_M_outside 78 = .ok (.invokevirtual 87, 3) := by decide +kernel
theorem d_M_outside_81 : decode b_M_outside 81 = .ok (.ifCond .eq 5, 3) := by decide +kernel
theorem d_M_outside_84 : decode b_M_outside 84 = .ok (.iconst 0, 1) := by decide +kernel
theorem d_M_outside_85 : decode b_M_outside 85 = .ok (.ireturn, 1) := by decide +kernel
theorem d_M_outside_86 : decode b_M_outside 86 = .ok (.aload_n 0, 1) := by decide +kernel
theorem d_M_outside_87 : decode b_M_outside 87 = .ok (.getfield 38, 3) := by decide +kernel
theorem d_M_outside_90 : decode b_M_outside 90 = .ok (.aload_n 0, 1) := by decide +kernel
theorem d_M_outside_91 : decode b_M_outside 91 = .ok (.getfield 99, 3) := by decide +kernel
theorem d_M_outside_94 : decode b_M_outside 94 = .ok (.iload_n 1, 1) := by decide +kernel
theorem d_M_outside_95 : decode b_M_outside 95 = .ok (.iastore, 1) := by decide +kernel
theorem d_M_outside_96 : decode b_M_outside 96 = .ok (.aload_n 0, 1) := by decide +kernel
theorem d_M_outside_97 : decode b_M_outside 97 = .ok (.getfield 41, 3) := by decide +kernel
theorem d_M_outside_100 : decode b_M_outside 100 = .ok (.aload_n 0, 1) := by decide +kernel
theorem d_M_outside_101 : decode b_M_outside 101 = .ok (.getfield 99, 3) := by decide +kernel
theorem d_M_outside_104 : decode b_M_outside 104 = .ok (.iload_n 2, 1) := by decide +kernel
theorem d_M_outside_105 : decode b_M_outside 105 = .ok (.iastore, 1) := by decide +kernel
theorem d_M_outside_106 : decode b_M_outside 106 = .ok (.aload_n 0, 1) := by decide +kernel
theorem d_M_outside_107 : decode b_M_outside 107 = .ok (.dup, 1) := by decide +kernel
theorem d_M_outside_108 : decode b_M_outside 108 = .ok (.getfield 99, 3) := by decide +kernel
theorem d_M_outside_111 : decode b_M_outside 111 = .ok (.iconst 1, 1) := by decide +kernel
theorem d_M_outside_112 : decode b_M_outside 112 = .ok (.iadd, 1) := by decide +kernel
theorem d_M_outside_113 : decode b_M_outside 113 = .ok (.putfield 99, 3) := by decide +kernel
theorem d_M_outside_116 : decode b_M_outside 116 = .ok (.aload_n 0, 1) := by decide +kernel
theorem d_M_outside_117 : decode b_M_outside 117 = .ok (.iconst 0, 1) := by decide +kernel
theorem d_M_outside_118 : decode b_M_outside 118 = .ok (.putfield 91, 3) := by decide +kernel
theorem d_M_outside_121 : decode b_M_outside 121 = .ok (.aload_n 0, 1) := by decide +kernel
theorem d_M_outside_122 : decode b_M_outside 122 = .ok (.getfield 99, 3) := by decide +kernel
theorem d_M_outside_125 : decode b_M_outside 125 = .ok (.ireturn, 1) := by decide +kernel
theorem d_M_machine_0 : decode b_M_machine 0 = .ok (.aload_n 0, 1) := by decide +kernel
theorem d_M_machine_1 : decode b_M_machine 1 = .ok (.iconst 0, 1) := by decide +kernel
theorem d_M_machine_2 : decode b_M_machine 2 = .ok (.putfield 77, 3) := by decide +kernel
theorem d_M_machine_5 : decode b_M_machine 5 = .ok (.aload_n 0, 1) := by decide +kernel
theorem d_M_machine_6 : decode b_M_machine 6 = .ok (.iload_n 1, 1) := by decide +kernel
theorem d_M_machine_7 : decode b_M_machine 7 = .ok (.iconst 0, 1) := by decide +kernel
theorem d_M_machine_8 : decode b_M_machine 8 = .ok (.ldc 102, 2) := by decide +kernel
theorem d_M_machine_10 : decode b_M_machine 10 = .ok (.invokestatic 83, 3) := by decide +kernel
theorem d_M_machine_13 : decode b_M_machine 13 = .ok (.ifCond .ne 7, 3) := by decide +kernel
theorem d_M_machine_16 : decode b_M_machine 16 = .ok (.iconst 1, 1) := by decide +kernel
theorem d_M_machine_17 : decode b_M_machine 17 = .ok (.goto 4, 3) := by decide +kernel
theorem d_M_machine_20 : decode b_M_machine 20 = .ok (.iconst 0, 1) := by decide +kernel
theorem d_M_machine_21 : decode b_M_machine 21 = .ok (.iconst 1, 1) := by decide +kernel
theorem d_M_machine_22 : decode b_M_machine 22 = .ok (.invokevirtual 87, 3) := by decide +kernel
theorem d_M_machine_25 : decode b_M_machine 25 = .ok (.ifCond .eq 5, 3) := by decide +kernel
theorem d_M_machine_28 : decode b_M_machine 28 = .ok (.iconst 0, 1) := by decide +kernel
theorem d_M_machine_29 : decode b_M_machine 29 = .ok (.ireturn, 1) := by decide +kernel
theorem d_M_machine_30 : decode b_M_machine 30 = .ok (.aload_n 0, 1) := by decide +kernel
theorem d_M_machine_31 : decode b_M_machine 31 = .ok (.getfield 45, 3) := by decide +kernel
theorem d_M_machine_34 : decode b_M_machine 34 = .ok (.istore_n 2, 1) := by decide +kernel
theorem d_M_machine_35 : decode b_M_machine 35 = .ok (.aload_n 0, 1) := by decide +kernel
theorem d_M_machine_36 : decode b_M_machine 36 = .ok (.iload_n 1, 1) := by decide +kernel
theorem d_M_machine_37 : decode b_M_machine 37 = .ok (.putfield 45, 3) := by decide +kernel
theorem d_M_machine_40 : decode b_M_machine 40 = .ok (.aload_n 0, 1) := by decide +kernel
theorem d_M_machine_41 : decode b_M_machine 41 = .ok (.iconst 0, 1) := by decide +kernel
theorem d_M_machine_42 : decode b_M_machine 42 = .ok (.putfield 91, 3) := by decide +kernel
theorem d_M_machine_45 : decode b_M_machine 45 = .ok (.iload_n 2, 1) := by decide +kernel
theorem d_M_machine_46 : decode b_M_machine 46 = .ok (.ireturn, 1) := by decide +kernel
theorem d_M_stepped_0 : decode b_M_stepped 0 = .ok (.iload_n 2, 1) := by decide +kernel
theorem d_M_stepped_1 : decode b_M_stepped 1 = .ok (.aload_n 0, 1) := by decide +kernel
theorem d_M_stepped_2 : decode b_M_stepped 2 = .ok (.getfield 58, 3) := by decide +kernel
theorem d_M_stepped_5 : decode b_M_stepped 5 = .ok (.iload_n 3, 1) := by decide +kernel
theorem d_M_stepped_6 : decode b_M_stepped 6 = .ok (.iaload, 1) := by decide +kernel
theorem d_M_stepped_7 : decode b_M_stepped 7 = .ok (.iload_n 2, 1) := by decide +kernel
theorem d_M_stepped_8 : decode b_M_stepped 8 = .ok (.isub, 1) := by decide +kernel
theorem d_M_stepped_9 : decode b_M_stepped 9 = .ok (.aload_n 0, 1) := by decide +kernel
theorem d_M_stepped_10 : decode b_M_stepped 10 = .ok (.getfield 13, 3) := by decide +kernel
theorem d_M_stepped_13 : decode b_M_stepped 13 = .ok (.iload_n 1, 1) := by decide +kernel
theorem d_M_stepped_14 : decode b_M_stepped 14 = .ok (.iaload, 1) := by decide +kernel
theorem d_M_stepped_15 : decode b_M_stepped 15 = .ok (.idiv, 1) := by decide +kernel
theorem d_M_stepped_16 : decode b_M_stepped 16 = .ok (.iadd, 1) := by decide +kernel
theorem d_M_stepped_17 : decode b_M_stepped 17 = .ok (.iload 4, 2) := by decide +kernel
theorem d_M_stepped_19 : decode b_M_stepped 19 = .ok (.aload_n 0, 1) := by decide +kernel
theorem d_M_stepped_20 : decode b_M_stepped 20 = .ok (.getfield 7, 3) := by decide +kernel
theorem d_M_stepped_23 : decode b_M_stepped 23 = .ok (.iload_n 1, 1) := by decide +kernel
theorem d_M_stepped_24 : decode b_M_stepped 24 = .ok (.iaload, 1) := by decide +kernel
theorem d_M_stepped_25 : decode b_M_stepped 25 = .ok (.idiv, 1) := by decide +kernel
theorem d_M_stepped_26 : decode b_M_stepped 26 = .ok (.iadd, 1) := by decide +kernel
theorem d_M_stepped_27 : decode b_M_stepped 27 = .ok (.ireturn, 1) := by decide +kernel
theorem d_M_heatIn_0 : decode b_M_heatIn 0 = .ok (.aload_n 0, 1) := by decide +kernel
theorem d_M_heatIn_1 : decode b_M_heatIn 1 = .ok (.getfield 19, 3) := by decide +kernel
theorem d_M_heatIn_4 : decode b_M_heatIn 4 = .ok (.iload_n 1, 1) := by decide +kernel
theorem d_M_heatIn_5 : decode b_M_heatIn 5 = .ok (.iaload, 1) := by decide +kernel
theorem d_M_heatIn_6 : decode b_M_heatIn 6 = .ok (.aload_n 0, 1) := by decide +kernel
theorem d_M_heatIn_7 : decode b_M_heatIn 7 = .ok (.getfield 61, 3) := by decide +kernel
theorem d_M_heatIn_10 : decode b_M_heatIn 10 = .ok (.iload_n 2, 1) := by decide +kernel
theorem d_M_heatIn_11 : decode b_M_heatIn 11 = .ok (.iaload, 1) := by decide +kernel
theorem d_M_heatIn_12 : decode b_M_heatIn 12 = .ok (.if_icmp .ge 12, 3) := by decide +kernel
theorem d_M_heatIn_15 : decode b_M_heatIn 15 = .ok (.aload_n 0, 1) := by decide +kernel
theorem d_M_heatIn_16 : decode b_M_heatIn 16 = .ok (.getfield 19, 3) := by decide +kernel
theorem d_M_heatIn_19 : decode b_M_heatIn 19 = .ok (.iload_n 1, 1) := by decide +kernel
theorem d_M_heatIn_20 : decode b_M_heatIn 20 = .ok (.iaload, 1) := by decide +kernel
theorem d_M_heatIn_21 : decode b_M_heatIn 21 = .ok (.goto 9, 3) := by decide +kernel
theorem d_M_heatIn_24 : decode b_M_heatIn 24 = .ok (.aload_n 0, 1) := by decide +kernel
theorem d_M_heatIn_25 : decode b_M_heatIn 25 = .ok (.getfield 61, 3) := by decide +kernel
theorem d_M_heatIn_28 : decode b_M_heatIn 28 = .ok (.iload_n 2, 1) := by decide +kernel
theorem d_M_heatIn_29 : decode b_M_heatIn 29 = .ok (.iaload, 1) := by decide +kernel
theorem d_M_heatIn_30 : decode b_M_heatIn 30 = .ok (.ireturn, 1) := by decide +kernel
theorem d_M_findOutsides_0 : decode b_M_findOutsides 0 = .ok (.iconst 0, 1) := by decide +kernel
theorem d_M_findOutsides_1 : decode b_M_findOutsides 1 = .ok (.istore_n 1, 1) := by decide +kernel
theorem d_M_findOutsides_2 : decode b_M_findOutsides 2 = .ok (.iload_n 1, 1) := by decide +kernel
theorem d_M_findOutsides_3 : decode b_M_findOutsides 3 = .ok (.sipush 1440, 3) := by decide +kernel
theorem d_M_findOutsides_6 : decode b_M_findOutsides 6 = .ok (.if_icmp .ge 55, 3) := by decide +kernel
theorem d_M_findOutsides_9 : decode b_M_findOutsides 9 = .ok (.iconst 0, 1) := by decide +kernel
theorem d_M_findOutsides_10 : decode b_M_findOutsides 10 = .ok (.istore_n 2, 1) := by decide +kernel
theorem d_M_findOutsides_11 : decode b_M_findOutsides 11 = .ok (.iconst 0, 1) := by decide +kernel
theorem d_M_findOutsides_12 : decode b_M_findOutsides 12 = .ok (.istore_n 3, 1) := by decide +kernel
theorem d_M_findOutsides_13 : decode b_M_findOutsides 13 = .ok (.iload_n 3, 1) := by decide +kernel
theorem d_M_findOutsides_14 : decode b_M_findOutsides 14 = .ok (.aload_n 0, 1) := by decide +kernel
theorem d_M_findOutsides_15 : decode b_M_findOutsides 15 = .ok (.getfield 99, 3) := by decide +kernel
theorem d_M_findOutsides_18 : decode b_M_findOutsides 18 = .ok (.if_icmp .ge 30, 3) := by decide +kernel
theorem d_M_findOutsides_21 : decode b_M_findOutsides 21 = .ok (.aload_n 0, 1) := by decide +kernel
theorem d_M_findOutsides_22 : decode b_M_findOutsides 22 = .ok (.getfield 38, 3) := by decide +kernel
theorem d_M_findOutsides_25 : decode b_M_findOutsides 25 = .ok (.iload_n 3, 1) := by decide +kernel
theorem d_M_findOutsides_26 : decode b_M_findOutsides 26 = .ok (.iaload, 1) := by decide +kernel
theorem d_M_findOutsides_27 : decode b_M_findOutsides 27 = .ok (.iload_n 1, 1) := by decide +kernel
theorem d_M_findOutsides_28 : decode b_M_findOutsides 28 = .ok (.if_icmp .gt 12, 3) := by decide +kernel
theorem d_M_findOutsides_31 : decode b_M_findOutsides 31 = .ok (.aload_n 0, 1) := by decide +kernel
theorem d_M_findOutsides_32 : decode b_M_findOutsides 32 = .ok (.getfield 41, 3) := by decide +kernel
theorem d_M_findOutsides_35 : decode b_M_findOutsides 35 = .ok (.iload_n 3, 1) := by decide +kernel
theorem d_M_findOutsides_36 : decode b_M_findOutsides 36 = .ok (.iaload, 1) := by decide +kernel
theorem d_M_findOutsides_37 : decode b_M_findOutsides 37 = .ok (.goto 4, 3) := by decide +kernel
theorem d_M_findOutsides_40 : decode b_M_findOutsides 40 = .ok (.iload_n 2, 1) := by decide +kernel
theorem d_M_findOutsides_41 : decode b_M_findOutsides 41 = .ok (.istore_n 2, 1) := by decide +kernel
theorem d_M_findOutsides_42 : decode b_M_findOutsides 42 = .ok (.iinc 3 1, 3) := by decide +kernel
theorem d_M_findOutsides_45 : decode b_M_findOutsides 45 = .ok (.goto (-32), 3) := by decide +kernel
theorem d_M_findOutsides_48 : decode b_M_findOutsides 48 = .ok (.aload_n 0, 1) := by decide +kernel
theorem d_M_findOutsides_49 : decode b_M_findOutsides 49 = .ok (.getfield 58, 3) := by decide +kernel
theorem d_M_findOutsides_52 : decode b_M_findOutsides 52 = .ok (.iload_n 1, 1) := by decide +kernel
theorem d_M_findOutsides_53 : decode b_M_findOutsides 53 = .ok (.iload_n 2, 1) := by decide +kernel
theorem d_M_findOutsides_54 : decode b_M_findOutsides 54 = .ok (.iastore, 1) := by decide +kernel
theorem d_M_findOutsides_55 : decode b_M_findOutsides 55 = .ok (.iinc 1 1, 3) := by decide +kernel
theorem d_M_findOutsides_58 : decode b_M_findOutsides 58 = .ok (.goto (-56), 3) := by decide +kernel
theorem d_M_findOutsides_61 : decode b_M_findOutsides 61 = .ok (.return_, 1) := by decide +kernel
theorem d_M_isWarm_0 : decode b_M_isWarm 0 = .ok (.iload_n 3, 1) := by decide +kernel
theorem d_M_isWarm_1 : decode b_M_isWarm 1 = .ok (.istore 4, 2) := by decide +kernel
theorem d_M_isWarm_3 : decode b_M_isWarm 3 = .ok (.iload_n 2, 1) := by decide +kernel
theorem d_M_isWarm_4 : decode b_M_isWarm 4 = .ok (.istore 5, 2) := by decide +kernel
theorem d_M_isWarm_6 : decode b_M_isWarm 6 = .ok (.iload 5, 2) := by decide +kernel
theorem d_M_isWarm_8 : decode b_M_isWarm 8 = .ok (.aload_n 0, 1) := by decide +kernel
theorem d_M_isWarm_9 : decode b_M_isWarm 9 = .ok (.getfield 25, 3) := by decide +kernel
theorem d_M_isWarm_12 : decode b_M_isWarm 12 = .ok (.iload_n 1, 1) := by decide +kernel
theorem d_M_isWarm_13 : decode b_M_isWarm 13 = .ok (.iaload, 1) := by decide +kernel
theorem d_M_isWarm_14 : decode b_M_isWarm 14 = .ok (.if_icmp .ge 27, 3) := by decide +kernel
theorem d_M_isWarm_17 : decode b_M_isWarm 17 = .ok (.aload_n 0, 1) := by decide +kernel
theorem d_M_isWarm_18 : decode b_M_isWarm 18 = .ok (.iload_n 1, 1) := by decide +kernel
theorem d_M_isWarm_19 : decode b_M_isWarm 19 = .ok (.iload 4, 2) := by decide +kernel
theorem d_M_isWarm_21 : decode b_M_isWarm 21 = .ok (.iload 5, 2) := by decide +kernel
theorem d_M_isWarm_23 : decode b_M_isWarm 23 = .ok (.aload_n 0, 1) := by decide +kernel
theorem d_M_isWarm_24 : decode b_M_isWarm 24 = .ok (.iload_n 1, 1) := by decide +kernel
theorem d_M_isWarm_25 : decode b_M_isWarm 25 = .ok (.iload 5, 2) := by decide +kernel
theorem d_M_isWarm_27 : decode b_M_isWarm 27 = .ok (.invokevirtual 103, 3) := by decide +kernel
theorem d_M_isWarm_30 : decode b_M_isWarm 30 = .ok (.invokevirtual 107, 3) := by decide +kernel
theorem d_M_isWarm_33 : decode b_M_isWarm 33 = .ok (.istore 4, 2) := by decide +kernel
theorem d_M_isWarm_35 : decode b_M_isWarm 35 = .ok (.iinc 5 1, 3) := by decide +kernel
theorem d_M_isWarm_38 : decode b_M_isWarm 38 = .ok (.goto (-32), 3) := by decide +kernel
theorem d_M_isWarm_41 : decode b_M_isWarm 41 = .ok (.iload 4, 2) := by decide +kernel
theorem d_M_isWarm_43 : decode b_M_isWarm 43 = .ok (.aload_n 0, 1) := by decide +kernel
theorem d_M_isWarm_44 : decode b_M_isWarm 44 = .ok (.getfield 28, 3) := by decide +kernel
theorem d_M_isWarm_47 : decode b_M_isWarm 47 = .ok (.iload_n 1, 1) := by decide +kernel
theorem d_M_isWarm_48 : decode b_M_isWarm 48 = .ok (.iaload, 1) := by decide +kernel
theorem d_M_isWarm_49 : decode b_M_isWarm 49 = .ok (.if_icmp .lt 7, 3) := by decide +kernel
theorem d_M_isWarm_52 : decode b_M_isWarm 52 = .ok (.iconst 1, 1) := by decide +kernel
theorem d_M_isWarm_53 : decode b_M_isWarm 53 = .ok (.goto 4, 3) := by decide +kernel
theorem d_M_isWarm_56 : decode b_M_isWarm 56 = .ok (.iconst 0, 1) := by decide +kernel
theorem d_M_isWarm_57 : decode b_M_isWarm 57 = .ok (.ireturn, 1) := by decide +kernel
theorem d_M_planZone_0 : decode b_M_planZone 0 = .ok (.sipush 1441, 3) := by decide +kernel
theorem d_M_planZone_3 : decode b_M_planZone 3 = .ok (.iload_n 1, 1) := by decide +kernel
theorem d_M_planZone_4 : decode b_M_planZone 4 = .ok (.imul, 1) := by decide +kernel
theorem d_M_planZone_5 : decode b_M_planZone 5 = .ok (.istore_n 2, 1) := by decide +kernel
theorem d_M_planZone_6 : decode b_M_planZone 6 = .ok (.aload_n 0, 1) := by decide +kernel
theorem d_M_planZone_7 : decode b_M_planZone 7 = .ok (.getfield 71, 3) := by decide +kernel
theorem d_M_planZone_10 : decode b_M_planZone 10 = .ok (.iload_n 2, 1) := by decide +kernel
theorem d_M_planZone_11 : decode b_M_planZone 11 = .ok (.aload_n 0, 1) := by decide +kernel
theorem d_M_planZone_12 : decode b_M_planZone 12 = .ok (.getfield 16, 3) := by decide +kernel
theorem d_M_planZone_15 : decode b_M_planZone 15 = .ok (.iload_n 1, 1) := by decide +kernel
theorem d_M_planZone_16 : decode b_M_planZone 16 = .ok (.iaload, 1) := by decide +kernel
theorem d_M_planZone_17 : decode b_M_planZone 17 = .ok (.iastore, 1) := by decide +kernel
theorem d_M_planZone_18 : decode b_M_planZone 18 = .ok (.iconst 0, 1) := by decide +kernel
theorem d_M_planZone_19 : decode b_M_planZone 19 = .ok (.istore_n 3, 1) := by decide +kernel
theorem d_M_planZone_20 : decode b_M_planZone 20 = .ok (.iload_n 3, 1) := by decide +kernel
theorem d_M_planZone_21 : decode b_M_planZone 21 = .ok (.sipush 1440, 3) := by decide +kernel
theorem d_M_planZone_24 : decode b_M_planZone 24 = .ok (.if_icmp .ge 34, 3) := by decide +kernel
theorem d_M_planZone_27 : decode b_M_planZone 27 = .ok (.aload_n 0, 1) := by decide +kernel
theorem d_M_planZone_28 : decode b_M_planZone 28 = .ok (.getfield 71, 3) := by decide +kernel
theorem d_M_planZone_31 : decode b_M_planZone 31 = .ok (.iload_n 2, 1) := by decide +kernel
theorem d_M_planZone_32 : decode b_M_planZone 32 = .ok (.iload_n 3, 1) := by decide +kernel
theorem d_M_planZone_33 : decode b_M_planZone 33 = .ok (.iadd, 1) := by decide +kernel
theorem d_M_planZone_34 : decode b_M_planZone 34 = .ok (.iconst 1, 1) := by decide +kernel
theorem d_M_planZone_35 : decode b_M_planZone 35 = .ok (.iadd, 1) := by decide +kernel
theorem d_M_planZone_36 : decode b_M_planZone 36 = .ok (.aload_n 0, 1) := by decide +kernel
theorem d_M_planZone_37 : decode b_M_planZone 37 = .ok (.iload_n 1, 1) := by decide +kernel
theorem d_M_planZone_38 : decode b_M_planZone 38 = .ok (.aload_n 0, 1) := by decide +kernel
theorem d_M_planZone_39 : decode b_M_planZone 39 = .ok (.getfield 71, 3) := by decide +kernel
theorem d_M_planZone_42 : decode b_M_planZone 42 = .ok (.iload_n 2, 1) := by decide +kernel
theorem d_M_planZone_43 : decode b_M_planZone 43 = .ok (.iload_n 3, 1) := by decide +kernel
theorem d_M_planZone_44 : decode b_M_planZone 44 = .ok (.iadd, 1) := by decide +kernel
theorem d_M_planZone_45 : decode b_M_planZone 45 = .ok (.iaload, 1) := by decide +kernel
theorem d_M_planZone_46 : decode b_M_planZone 46 = .ok (.iload_n 3, 1) := by decide +kernel
theorem d_M_planZone_47 : decode b_M_planZone 47 = .ok (.iconst 0, 1) := by decide +kernel
theorem d_M_planZone_48 : decode b_M_planZone 48 = .ok (.invokevirtual 107, 3) := by decide +kernel
theorem d_M_planZone_51 : decode b_M_planZone 51 = .ok (.iastore, 1) := by decide +kernel
theorem d_M_planZone_52 : decode b_M_planZone 52 = .ok (.iinc 3 1, 3) := by decide +kernel
theorem d_M_planZone_55 : decode b_M_planZone 55 = .ok (.goto (-35), 3) := by decide +kernel
theorem d_M_planZone_58 : decode b_M_planZone 58 = .ok (.aload_n 0, 1) := by decide +kernel
theorem d_M_planZone_59 : decode b_M_planZone 59 = .ok (.getfield 64, 3) := by decide +kernel
theorem d_M_planZone_62 : decode b_M_planZone 62 = .ok (.iload_n 1, 1) := by decide +kernel
theorem d_M_planZone_63 : decode b_M_planZone 63 = .ok (.iconst (-1), 1) := by decide +kernel
theorem d_M_planZone_64 : decode b_M_planZone 64 = .ok (.iastore, 1) := by decide +kernel
theorem d_M_planZone_65 : decode b_M_planZone 65 = .ok (.aload_n 0, 1) := by decide +kernel
theorem d_M_planZone_66 : decode b_M_planZone 66 = .ok (.getfield 67, 3) := by decide +kernel
theorem d_M_planZone_69 : decode b_M_planZone 69 = .ok (.iload_n 1, 1) := by decide +kernel
theorem d_M_planZone_70 : decode b_M_planZone 70 = .ok (.iconst 0, 1) := by decide +kernel
theorem d_M_planZone_71 : decode b_M_planZone 71 = .ok (.bastore, 1) := by decide +kernel
theorem d_M_planZone_72 : decode b_M_planZone 72 = .ok (.aload_n 0, 1) := by decide +kernel
theorem d_M_planZone_73 : decode b_M_planZone 73 = .ok (.getfield 25, 3) := by decide +kernel
theorem d_M_planZone_76 : decode b_M_planZone 76 = .ok (.iload_n 1, 1) := by decide +kernel
theorem d_M_planZone_77 : decode b_M_planZone 77 = .ok (.iaload, 1) := by decide +kernel
theorem d_M_planZone_78 : decode b_M_planZone 78 = .ok (.iconst (-1), 1) := by decide +kernel
theorem d_M_planZone_79 : decode b_M_planZone 79 = .ok (.if_icmp .ne 4, 3) := by decide +kernel
theorem d_M_planZone_82 : decode b_M_planZone 82 = .ok (.return_, 1) := by decide +kernel
theorem d_M_planZone_83 : decode b_M_planZone 83 = .ok (.aload_n 0, 1) := by decide +kernel
theorem d_M_planZone_84 : decode b_M_planZone 84 = .ok (.getfield 25, 3) := by decide +kernel
theorem d_M_planZone_87 : decode b_M_planZone 87 = .ok (.iload_n 1, 1) := by decide +kernel
theorem d_M_planZone_88 : decode b_M_planZone 88 = .ok (.iaload, 1) := by decide +kernel
theorem d_M_planZone_89 : decode b_M_planZone 89 = .ok (.istore_n 3, 1) := by decide +kernel
theorem d_M_planZone_90 : decode b_M_planZone 90 = .ok (.iload_n 3, 1) := by decide +kernel
theorem d_M_planZone_91 : decode b_M_planZone 91 = .ok (.ifCond .le 26, 3) := by decide +kernel
theorem d_M_planZone_94 : decode b_M_planZone 94 = .ok (.aload_n 0, 1) := by decide +kernel
theorem d_M_planZone_95 : decode b_M_planZone 95 = .ok (.iload_n 1, 1) := by decide +kernel
theorem d_M_planZone_96 : decode b_M_planZone 96 = .ok (.iload_n 3, 1) := by decide +kernel
theorem d_M_planZone_97 : decode b_M_planZone 97 = .ok (.aload_n 0, 1) := by decide +kernel
theorem d_M_planZone_98 : decode b_M_planZone 98 = .ok (.getfield 71, 3) := by decide +kernel
theorem d_M_planZone_101 : decode b_M_planZone 101 = .ok (.iload_n 2, 1) := by decide +kernel
theorem d_M_planZone_102 : decode b_M_planZone 102 = .ok (.iload_n 3, 1) := by decide +kernel
theorem d_M_planZone_103 : decode b_M_planZone 103 = .ok (.iadd, 1) := by decide +kernel
theorem d_M_planZone_104 : decode b_M_planZone 104 = .ok (.iaload, 1) := by decide +kernel
theorem d_M_planZone_105 : decode b_M_planZone 105 = .ok (.invokevirtual 111, 3) := by decide +kernel
theorem d_M_planZone_108 : decode b_M_planZone 108 = .ok (.ifCond .ne 9, 3) := by decide +kernel
theorem d_M_planZone_111 : decode b_M_planZone 111 = .ok (.iinc 3 (-1), 3) := by decide +kernel
theorem d_M_planZone_114 : decode b_M_planZone 114 = .ok (.goto (-24), 3) := by decide +kernel
theorem d_M_planZone_117 : decode b_M_planZone 117 = .ok (.aload_n 0, 1) := by decide +kernel
theorem d_M_planZone_118 : decode b_M_planZone 118 = .ok (.getfield 64, 3) := by decide +kernel
theorem d_M_planZone_121 : decode b_M_planZone 121 = .ok (.iload_n 1, 1) := by decide +kernel
theorem d_M_planZone_122 : decode b_M_planZone 122 = .ok (.iload_n 3, 1) := by decide +kernel
theorem d_M_planZone_123 : decode b_M_planZone 123 = .ok (.iastore, 1) := by decide +kernel
theorem d_M_planZone_124 : decode b_M_planZone 124 = .ok (.aload_n 0, 1) := by decide +kernel
theorem d_M_planZone_125 : decode b_M_planZone 125 = .ok (.getfield 67, 3) := by decide +kernel
theorem d_M_planZone_128 : decode b_M_planZone 128 = .ok (.iload_n 1, 1) := by decide +kernel
theorem d_M_planZone_129 : decode b_M_planZone 129 = .ok (.aload_n 0, 1) := by decide +kernel
theorem d_M_planZone_130 : decode b_M_planZone 130 = .ok (.iload_n 1, 1) := by decide +kernel
theorem d_M_planZone_131 : decode b_M_planZone 131 = .ok (.iload_n 3, 1) := by decide +kernel
theorem d_M_planZone_132 : decode b_M_planZone 132 = .ok (.aload_n 0, 1) := by decide +kernel
theorem d_M_planZone_133 : decode b_M_planZone 133 = .ok (.getfield 71, 3) := by decide +kernel
theorem d_M_planZone_136 : decode b_M_planZone 136 = .ok (.iload_n 2, 1) := by decide +kernel
theorem d_M_planZone_137 : decode b_M_planZone 137 = .ok (.iload_n 3, 1) := by decide +kernel
theorem d_M_planZone_138 : decode b_M_planZone 138 = .ok (.iadd, 1) := by decide +kernel
theorem d_M_planZone_139 : decode b_M_planZone 139 = .ok (.iaload, 1) := by decide +kernel
theorem d_M_planZone_140 : decode b_M_planZone 140 = .ok (.invokevirtual 111, 3) := by decide +kernel
theorem d_M_planZone_143 : decode b_M_planZone 143 = .ok (.ifCond .ne 7, 3) := by decide +kernel
theorem d_M_planZone_146 : decode b_M_planZone 146 = .ok (.iconst 1, 1) := by decide +kernel
theorem d_M_planZone_147 : decode b_M_planZone 147 = .ok (.goto 4, 3) := by decide +kernel
theorem d_M_planZone_150 : decode b_M_planZone 150 = .ok (.iconst 0, 1) := by decide +kernel
theorem d_M_planZone_151 : decode b_M_planZone 151 = .ok (.bastore, 1) := by decide +kernel
theorem d_M_planZone_152 : decode b_M_planZone 152 = .ok (.iload_n 3, 1) := by decide +kernel
theorem d_M_planZone_153 : decode b_M_planZone 153 = .ok (.istore 4, 2) := by decide +kernel
theorem d_M_planZone_155 : decode b_M_planZone 155 = .ok (.iload 4, 2) := by decide +kernel
theorem d_M_planZone_157 : decode b_M_planZone 157 = .ok (.sipush 1440, 3) := by decide +kernel
theorem d_M_planZone_160 : decode b_M_planZone 160 = .ok (.if_icmp .ge 74, 3) := by decide +kernel
theorem d_M_planZone_163 : decode b_M_planZone 163 = .ok (.iload 4, 2) := by decide +kernel
theorem d_M_planZone_165 : decode b_M_planZone 165 = .ok (.aload_n 0, 1) := by decide +kernel
theorem d_M_planZone_166 : decode b_M_planZone 166 = .ok (.getfield 25, 3) := by decide +kernel
theorem d_M_planZone_169 : decode b_M_planZone 169 = .ok (.iload_n 1, 1) := by decide +kernel
theorem d_M_planZone_170 : decode b_M_planZone 170 = .ok (.iaload, 1) := by decide +kernel
theorem d_M_planZone_171 : decode b_M_planZone 171 = .ok (.if_icmp .ge 13, 3) := by decide +kernel
theorem d_M_planZone_174 : decode b_M_planZone 174 = .ok (.aload_n 0, 1) := by decide +kernel
theorem d_M_planZone_175 : decode b_M_planZone 175 = .ok (.iload_n 1, 1) := by decide +kernel
theorem d_M_planZone_176 : decode b_M_planZone 176 = .ok (.iload 4, 2) := by decide +kernel
theorem d_M_planZone_178 : decode b_M_planZone 178 = .ok (.invokevirtual 103, 3) := by decide +kernel
theorem d_M_planZone_181 : decode b_M_planZone 181 = .ok (.goto 4, 3) := by decide +kernel
theorem d_M_planZone_184 : decode b_M_planZone 184 = .ok (.iconst 0, 1) := by decide +kernel
theorem d_M_planZone_185 : decode b_M_planZone 185 = .ok (.istore 5, 2) := by decide +kernel
theorem d_M_planZone_187 : decode b_M_planZone 187 = .ok (.aload_n 0, 1) := by decide +kernel
theorem d_M_planZone_188 : decode b_M_planZone 188 = .ok (.getfield 61, 3) := by decide +kernel
theorem d_M_planZone_191 : decode b_M_planZone 191 = .ok (.iload 4, 2) := by decide +kernel
theorem d_M_planZone_193 : decode b_M_planZone 193 = .ok (.dup2, 1) := by decide +kernel
theorem d_M_planZone_194 : decode b_M_planZone 194 = .ok (.iaload, 1) := by decide +kernel
theorem d_M_planZone_195 : decode b_M_planZone 195 = .ok (.iload 5, 2) := by decide +kernel
theorem d_M_planZone_197 : decode b_M_planZone 197 = .ok (.isub, 1) := by decide +kernel
theorem d_M_planZone_198 : decode b_M_planZone 198 = .ok (.iastore, 1) := by decide +kernel
theorem d_M_planZone_199 : decode b_M_planZone 199 = .ok (.aload_n 0, 1) := by decide +kernel
theorem d_M_planZone_200 : decode b_M_planZone 200 = .ok (.getfield 71, 3) := by decide +kernel
theorem d_M_planZone_203 : decode b_M_planZone 203 = .ok (.iload_n 2, 1) := by decide +kernel
theorem d_M_planZone_204 : decode b_M_planZone 204 = .ok (.iload 4, 2) := by decide +kernel
theorem d_M_planZone_206 : decode b_M_planZone 206 = .ok (.iadd, 1) := by decide +kernel
theorem d_M_planZone_207 : decode b_M_planZone 207 = .ok (.iconst 1, 1) := by decide +kernel
theorem d_M_planZone_208 : decode b_M_planZone 208 = .ok (.iadd, 1) := by decide +kernel
theorem d_M_planZone_209 : decode b_M_planZone 209 = .ok (.aload_n 0, 1) := by decide +kernel
theorem d_M_planZone_210 : decode b_M_planZone 210 = .ok (.iload_n 1, 1) := by decide +kernel
theorem d_M_planZone_211 : decode b_M_planZone 211 = .ok (.aload_n 0, 1) := by decide +kernel
theorem d_M_planZone_212 : decode b_M_planZone 212 = .ok (.getfield 71, 3) := by decide +kernel
theorem d_M_planZone_215 : decode b_M_planZone 215 = .ok (.iload_n 2, 1) := by decide +kernel
theorem d_M_planZone_216 : decode b_M_planZone 216 = .ok (.iload 4, 2) := by decide +kernel
theorem d_M_planZone_218 : decode b_M_planZone 218 = .ok (.iadd, 1) := by decide +kernel
theorem d_M_planZone_219 : decode b_M_planZone 219 = .ok (.iaload, 1) := by decide +kernel
theorem d_M_planZone_220 : decode b_M_planZone 220 = .ok (.iload 4, 2) := by decide +kernel
theorem d_M_planZone_222 : decode b_M_planZone 222 = .ok (.iload 5, 2) := by decide +kernel
theorem d_M_planZone_224 : decode b_M_planZone 224 = .ok (.invokevirtual 107, 3) := by decide +kernel
theorem d_M_planZone_227 : decode b_M_planZone 227 = .ok (.iastore, 1) := by decide +kernel
theorem d_M_planZone_228 : decode b_M_planZone 228 = .ok (.iinc 4 1, 3) := by decide +kernel
theorem d_M_planZone_231 : decode b_M_planZone 231 = .ok (.goto (-76), 3) := by decide +kernel
theorem d_M_planZone_234 : decode b_M_planZone 234 = .ok (.return_, 1) := by decide +kernel
theorem d_M_plan_0 : decode b_M_plan 0 = .ok (.aload_n 0, 1) := by decide +kernel
theorem d_M_plan_1 : decode b_M_plan 1 = .ok (.getfield 91, 3) := by decide +kernel
theorem d_M_plan_4 : decode b_M_plan 4 = .ok (.ifCond .eq 4, 3) := by decide +kernel
theorem d_M_plan_7 : decode b_M_plan 7 = .ok (.return_, 1) := by decide +kernel
theorem d_M_plan_8 : decode b_M_plan 8 = .ok (.aload_n 0, 1) := by decide +kernel
theorem d_M_plan_9 : decode b_M_plan 9 = .ok (.iconst 1, 1) := by decide +kernel
theorem d_M_plan_10 : decode b_M_plan 10 = .ok (.putfield 91, 3) := by decide +kernel
theorem d_M_plan_13 : decode b_M_plan 13 = .ok (.aload_n 0, 1) := by decide +kernel
theorem d_M_plan_14 : decode b_M_plan 14 = .ok (.invokevirtual 114, 3) := by decide +kernel
theorem d_M_plan_17 : decode b_M_plan 17 = .ok (.iconst 0, 1) := by decide +kernel
theorem d_M_plan_18 : decode b_M_plan 18 = .ok (.istore_n 1, 1) := by decide +kernel
theorem d_M_plan_19 : decode b_M_plan 19 = .ok (.iload_n 1, 1) := by decide +kernel
theorem d_M_plan_20 : decode b_M_plan 20 = .ok (.sipush 1440, 3) := by decide +kernel
theorem d_M_plan_23 : decode b_M_plan 23 = .ok (.if_icmp .ge 19, 3) := by decide +kernel
theorem d_M_plan_26 : decode b_M_plan 26 = .ok (.aload_n 0, 1) := by decide +kernel
theorem d_M_plan_27 : decode b_M_plan 27 = .ok (.getfield 61, 3) := by decide +kernel
theorem d_M_plan_30 : decode b_M_plan 30 = .ok (.iload_n 1, 1) := by decide +kernel
theorem d_M_plan_31 : decode b_M_plan 31 = .ok (.aload_n 0, 1) := by decide +kernel
theorem d_M_plan_32 : decode b_M_plan 32 = .ok (.getfield 45, 3) := by decide +kernel
theorem d_M_plan_35 : decode b_M_plan 35 = .ok (.iastore, 1) := by decide +kernel
theorem d_M_plan_36 : decode b_M_plan 36 = .ok (.iinc 1 1, 3) := by decide +kernel
theorem d_M_plan_39 : decode b_M_plan 39 = .ok (.goto (-20), 3) := by decide +kernel
theorem d_M_plan_42 : decode b_M_plan 42 = .ok (.iconst 0, 1) := by decide +kernel
theorem d_M_plan_43 : decode b_M_plan 43 = .ok (.istore_n 1, 1) := by decide +kernel
theorem d_M_plan_44 : decode b_M_plan 44 = .ok (.iload_n 1, 1) := by decide +kernel
theorem d_M_plan_45 : decode b_M_plan 45 = .ok (.bipush 6, 2) := by decide +kernel
theorem d_M_plan_47 : decode b_M_plan 47 = .ok (.if_icmp .ge 28, 3) := by decide +kernel
theorem d_M_plan_50 : decode b_M_plan 50 = .ok (.aload_n 0, 1) := by decide +kernel
theorem d_M_plan_51 : decode b_M_plan 51 = .ok (.getfield 74, 3) := by decide +kernel
theorem d_M_plan_54 : decode b_M_plan 54 = .ok (.iload_n 1, 1) := by decide +kernel
theorem d_M_plan_55 : decode b_M_plan 55 = .ok (.iload_n 1, 1) := by decide +kernel
theorem d_M_plan_56 : decode b_M_plan 56 = .ok (.aload_n 0, 1) := by decide +kernel
theorem d_M_plan_57 : decode b_M_plan 57 = .ok (.getfield 80, 3) := by decide +kernel
theorem d_M_plan_60 : decode b_M_plan 60 = .ok (.if_icmp .lt 7, 3) := by decide +kernel
theorem d_M_plan_63 : decode b_M_plan 63 = .ok (.iconst 1, 1) := by decide +kernel
theorem d_M_plan_64 : decode b_M_plan 64 = .ok (.goto 4, 3) := by decide +kernel
theorem d_M_plan_67 : decode b_M_plan 67 = .ok (.iconst 0, 1) := by decide +kernel
theorem d_M_plan_68 : decode b_M_plan 68 = .ok (.bastore, 1) := by decide +kernel
theorem d_M_plan_69 : decode b_M_plan 69 = .ok (.iinc 1 1, 3) := by decide +kernel
theorem d_M_plan_72 : decode b_M_plan 72 = .ok (.goto (-28), 3) := by decide +kernel
theorem d_M_plan_75 : decode b_M_plan 75 = .ok (.iconst 0, 1) := by decide +kernel
theorem d_M_plan_76 : decode b_M_plan 76 = .ok (.istore_n 1, 1) := by decide +kernel
theorem d_M_plan_77 : decode b_M_plan 77 = .ok (.iload_n 1, 1) := by decide +kernel
theorem d_M_plan_78 : decode b_M_plan 78 = .ok (.aload_n 0, 1) := by decide +kernel
theorem d_M_plan_79 : decode b_M_plan 79 = .ok (.getfield 80, 3) := by decide +kernel
theorem d_M_plan_82 : decode b_M_plan 82 = .ok (.if_icmp .ge 70, 3) := by decide +kernel
theorem d_M_plan_85 : decode b_M_plan 85 = .ok (.iconst (-1), 1) := by decide +kernel
theorem d_M_plan_86 : decode b_M_plan 86 = .ok (.istore_n 2, 1) := by decide +kernel
theorem d_M_plan_87 : decode b_M_plan 87 = .ok (.iconst 0, 1) := by decide +kernel
theorem d_M_plan_88 : decode b_M_plan 88 = .ok (.istore_n 3, 1) := by decide +kernel
theorem d_M_plan_89 : decode b_M_plan 89 = .ok (.iload_n 3, 1) := by decide +kernel
theorem d_M_plan_90 : decode b_M_plan 90 = .ok (.aload_n 0, 1) := by decide +kernel
theorem d_M_plan_91 : decode b_M_plan 91 = .ok (.getfield 80, 3) := by decide +kernel
theorem d_M_plan_94 : decode b_M_plan 94 = .ok (.if_icmp .ge 40, 3) := by decide +kernel
theorem d_M_plan_97 : decode b_M_plan 97 = .ok (.aload_n 0, 1) := by decide +kernel
theorem d_M_plan_98 : decode b_M_plan 98 = .ok (.getfield 74, 3) := by decide +kernel
theorem d_M_plan_101 : decode b_M_plan 101 = .ok (.iload_n 3, 1) := by decide +kernel
theorem d_M_plan_102 : decode b_M_plan 102 = .ok (.baload, 1) := by decide +kernel
theorem d_M_plan_103 : decode b_M_plan 103 = .ok (.ifCond .ne 25, 3) := by decide +kernel
theorem d_M_plan_106 : decode b_M_plan 106 = .ok (.iload_n 2, 1) := by decide +kernel
theorem d_M_plan_107 : decode b_M_plan 107 = .ok (.iconst (-1), 1) := by decide +kernel
theorem d_M_plan_108 : decode b_M_plan 108 = .ok (.if_icmp .eq 18, 3) := by decide +kernel
theorem d_M_plan_111 : decode b_M_plan 111 = .ok (.aload_n 0, 1) := by decide +kernel
theorem d_M_plan_112 : decode b_M_plan 112 = .ok (.getfield 22, 3) := by decide +kernel
theorem d_M_plan_115 : decode b_M_plan 115 = .ok (.iload_n 3, 1) := by decide +kernel
theorem d_M_plan_116 : decode b_M_plan 116 = .ok (.iaload, 1) := by decide +kernel
theorem d_M_plan_117 : decode b_M_plan 117 = .ok (.aload_n 0, 1) := by decide +kernel
theorem d_M_plan_118 : decode b_M_plan 118 = .ok (.getfield 22, 3) := by decide +kernel
theorem d_M_plan_121 : decode b_M_plan 121 = .ok (.iload_n 2, 1) := by decide +kernel
theorem d_M_plan_122 : decode b_M_plan 122 = .ok (.iaload, 1) := by decide +kernel
theorem d_M_plan_123 : decode b_M_plan 123 = .ok (.if_icmp .ge 5, 3) := by decide +kernel
theorem d_M_plan_126 : decode b_M_plan 126 = .ok (.iload_n 3, 1) := by decide +kernel
theorem d_M_plan_127 : decode b_M_plan 127 = .ok (.istore_n 2, 1) := by decide +kernel
theorem d_M_plan_128 : decode b_M_plan 128 = .ok (.iinc 3 1, 3) := by decide +kernel
theorem d_M_plan_131 : decode b_M_plan 131 = .ok (.goto (-42), 3) := by decide +kernel
theorem d_M_plan_134 : decode b_M_plan 134 = .ok (.aload_n 0, 1) := by decide +kernel
theorem d_M_plan_135 : decode b_M_plan 135 = .ok (.getfield 74, 3) := by decide +kernel
theorem d_M_plan_138 : decode b_M_plan 138 = .ok (.iload_n 2, 1) := by decide +kernel
theorem d_M_plan_139 : decode b_M_plan 139 = .ok (.iconst 1, 1) := by decide +kernel
theorem d_M_plan_140 : decode b_M_plan 140 = .ok (.bastore, 1) := by decide +kernel
theorem d_M_plan_141 : decode b_M_plan 141 = .ok (.aload_n 0, 1) := by decide +kernel
theorem d_M_plan_142 : decode b_M_plan 142 = .ok (.iload_n 2, 1) := by decide +kernel
theorem d_M_plan_143 : decode b_M_plan 143 = .ok (.invokevirtual 117, 3) := by decide +kernel
theorem d_M_plan_146 : decode b_M_plan 146 = .ok (.iinc 1 1, 3) := by decide +kernel
theorem d_M_plan_149 : decode b_M_plan 149 = .ok (.goto (-72), 3) := by decide +kernel
theorem d_M_plan_152 : decode b_M_plan 152 = .ok (.return_, 1) := by decide +kernel
theorem d_M_start_0 : decode b_M_start 0 = .ok (.aload_n 0, 1) := by decide +kernel
theorem d_M_start_1 : decode b_M_start 1 = .ok (.iconst 0, 1) := by decide +kernel
theorem d_M_start_2 : decode b_M_start 2 = .ok (.putfield 77, 3) := by decide +kernel
theorem d_M_start_5 : decode b_M_start 5 = .ok (.aload_n 0, 1) := by decide +kernel
theorem d_M_start_6 : decode b_M_start 6 = .ok (.aload_n 0, 1) := by decide +kernel
theorem d_M_start_7 : decode b_M_start 7 = .ok (.iload_n 1, 1) := by decide +kernel
theorem d_M_start_8 : decode b_M_start 8 = .ok (.invokevirtual 95, 3) := by decide +kernel
theorem d_M_start_11 : decode b_M_start 11 = .ok (.ifCond .ne 7, 3) := by decide +kernel
theorem d_M_start_14 : decode b_M_start 14 = .ok (.iconst 1, 1) := by decide +kernel
theorem d_M_start_15 : decode b_M_start 15 = .ok (.goto 4, 3) := by decide +kernel
theorem d_M_start_18 : decode b_M_start 18 = .ok (.iconst 0, 1) := by decide +kernel
theorem d_M_start_19 : decode b_M_start 19 = .ok (.iconst 1, 1) := by decide +kernel
theorem d_M_start_20 : decode b_M_start 20 = .ok (.invokevirtual 87, 3) := by decide +kernel
theorem d_M_start_23 : decode b_M_start 23 = .ok (.ifCond .eq 5, 3) := by decide +kernel
theorem d_M_start_26 : decode b_M_start 26 = .ok (.iconst 0, 1) := by decide +kernel
theorem d_M_start_27 : decode b_M_start 27 = .ok (.ireturn, 1) := by decide +kernel
theorem d_M_start_28 : decode b_M_start 28 = .ok (.aload_n 0, 1) := by decide +kernel
theorem d_M_start_29 : decode b_M_start 29 = .ok (.invokevirtual 121, 3) := by decide +kernel
theorem d_M_start_32 : decode b_M_start 32 = .ok (.aload_n 0, 1) := by decide +kernel
theorem d_M_start_33 : decode b_M_start 33 = .ok (.getfield 64, 3) := by decide +kernel
theorem d_M_start_36 : decode b_M_start 36 = .ok (.iload_n 1, 1) := by decide +kernel
theorem d_M_start_37 : decode b_M_start 37 = .ok (.iaload, 1) := by decide +kernel
theorem d_M_start_38 : decode b_M_start 38 = .ok (.ireturn, 1) := by decide +kernel
theorem d_M_late_0 : decode b_M_late 0 = .ok (.aload_n 0, 1) := by decide +kernel
theorem d_M_late_1 : decode b_M_late 1 = .ok (.iconst 0, 1) := by decide +kernel
theorem d_M_late_2 : decode b_M_late 2 = .ok (.putfield 77, 3) := by decide +kernel
theorem d_M_late_5 : decode b_M_late 5 = .ok (.aload_n 0, 1) := by decide +kernel
theorem d_M_late_6 : decode b_M_late 6 = .ok (.aload_n 0, 1) := by decide +kernel
theorem d_M_late_7 : decode b_M_late 7 = .ok (.iload_n 1, 1) := by decide +kernel
theorem d_M_late_8 : decode b_M_late 8 = .ok (.invokevirtual 95, 3) := by decide +kernel
theorem d_M_late_11 : decode b_M_late 11 = .ok (.ifCond .ne 7, 3) := by decide +kernel
theorem d_M_late_14 : decode b_M_late 14 = .ok (.iconst 1, 1) := by decide +kernel
theorem d_M_late_15 : decode b_M_late 15 = .ok (.goto 4, 3) := by decide +kernel
theorem d_M_late_18 : decode b_M_late 18 = .ok (.iconst 0, 1) := by decide +kernel
theorem d_M_late_19 : decode b_M_late 19 = .ok (.iconst 1, 1) := by decide +kernel
theorem d_M_late_20 : decode b_M_late 20 = .ok (.invokevirtual 87, 3) := by decide +kernel
theorem d_M_late_23 : decode b_M_late 23 = .ok (.ifCond .eq 5, 3) := by decide +kernel
theorem d_M_late_26 : decode b_M_late 26 = .ok (.iconst 0, 1) := by decide +kernel
theorem d_M_late_27 : decode b_M_late 27 = .ok (.ireturn, 1) := by decide +kernel
theorem d_M_late_28 : decode b_M_late 28 = .ok (.aload_n 0, 1) := by decide +kernel
theorem d_M_late_29 : decode b_M_late 29 = .ok (.invokevirtual 121, 3) := by decide +kernel
theorem d_M_late_32 : decode b_M_late 32 = .ok (.aload_n 0, 1) := by decide +kernel
theorem d_M_late_33 : decode b_M_late 33 = .ok (.getfield 67, 3) := by decide +kernel
theorem d_M_late_36 : decode b_M_late 36 = .ok (.iload_n 1, 1) := by decide +kernel
theorem d_M_late_37 : decode b_M_late 37 = .ok (.baload, 1) := by decide +kernel
theorem d_M_late_38 : decode b_M_late 38 = .ok (.ireturn, 1) := by decide +kernel
theorem d_M_at_0 : decode b_M_at 0 = .ok (.aload_n 0, 1) := by decide +kernel
theorem d_M_at_1 : decode b_M_at 1 = .ok (.iconst 0, 1) := by decide +kernel
theorem d_M_at_2 : decode b_M_at 2 = .ok (.putfield 77, 3) := by decide +kernel
theorem d_M_at_5 : decode b_M_at 5 = .ok (.aload_n 0, 1) := by decide +kernel
theorem d_M_at_6 : decode b_M_at 6 = .ok (.aload_n 0, 1) := by decide +kernel
theorem d_M_at_7 : decode b_M_at 7 = .ok (.iload_n 1, 1) := by decide +kernel
theorem d_M_at_8 : decode b_M_at 8 = .ok (.invokevirtual 95, 3) := by decide +kernel
theorem d_M_at_11 : decode b_M_at 11 = .ok (.ifCond .eq 14, 3) := by decide +kernel
theorem d_M_at_14 : decode b_M_at 14 = .ok (.iload_n 2, 1) := by decide +kernel
theorem d_M_at_15 : decode b_M_at 15 = .ok (.iconst 0, 1) := by decide +kernel
theorem d_M_at_16 : decode b_M_at 16 = .ok (.sipush 1440, 3) := by decide +kernel
theorem d_M_at_19 : decode b_M_at 19 = .ok (.invokestatic 83, 3) := by decide +kernel
theorem d_M_at_22 : decode b_M_at 22 = .ok (.ifCond .ne 7, 3) := by decide +kernel
theorem d_M_at_25 : decode b_M_at 25 = .ok (.iconst 1, 1) := by decide +kernel
theorem d_M_at_26 : decode b_M_at 26 = .ok (.goto 4, 3) := by decide +kernel
theorem d_M_at_29 : decode b_M_at 29 = .ok (.iconst 0, 1) := by decide +kernel
theorem d_M_at_30 : decode b_M_at 30 = .ok (.iconst 1, 1) := by decide +kernel
theorem d_M_at_31 : decode b_M_at 31 = .ok (.invokevirtual 87, 3) := by decide +kernel
theorem d_M_at_34 : decode b_M_at 34 = .ok (.ifCond .eq 5, 3) := by decide +kernel
theorem d_M_at_37 : decode b_M_at 37 = .ok (.iconst 0, 1) := by decide +kernel
theorem d_M_at_38 : decode b_M_at 38 = .ok (.ireturn, 1) := by decide +kernel
theorem d_M_at_39 : decode b_M_at 39 = .ok (.aload_n 0, 1) := by decide +kernel
theorem d_M_at_40 : decode b_M_at 40 = .ok (.invokevirtual 121, 3) := by decide +kernel
theorem d_M_at_43 : decode b_M_at 43 = .ok (.aload_n 0, 1) := by decide +kernel
theorem d_M_at_44 : decode b_M_at 44 = .ok (.getfield 71, 3) := by decide +kernel
theorem d_M_at_47 : decode b_M_at 47 = .ok (.sipush 1441, 3) := by decide +kernel
theorem d_M_at_50 : decode b_M_at 50 = .ok (.iload_n 1, 1) := by decide +kernel
theorem d_M_at_51 : decode b_M_at 51 = .ok (.imul, 1) := by decide +kernel
theorem d_M_at_52 : decode b_M_at 52 = .ok (.iload_n 2, 1) := by decide +kernel
theorem d_M_at_53 : decode b_M_at 53 = .ok (.iadd, 1) := by decide +kernel
theorem d_M_at_54 : decode b_M_at 54 = .ok (.iaload, 1) := by decide +kernel
theorem d_M_at_55 : decode b_M_at 55 = .ok (.ireturn, 1) := by decide +kernel
theorem d_M_used_0 : decode b_M_used 0 = .ok (.aload_n 0, 1) := by decide +kernel
theorem d_M_used_1 : decode b_M_used 1 = .ok (.iconst 0, 1) := by decide +kernel
theorem d_M_used_2 : decode b_M_used 2 = .ok (.putfield 77, 3) := by decide +kernel
theorem d_M_used_5 : decode b_M_used 5 = .ok (.aload_n 0, 1) := by decide +kernel
theorem d_M_used_6 : decode b_M_used 6 = .ok (.iload_n 1, 1) := by decide +kernel
theorem d_M_used_7 : decode b_M_used 7 = .ok (.iconst 0, 1) := by decide +kernel
theorem d_M_used_8 : decode b_M_used 8 = .ok (.sipush 1439, 3) := by decide +kernel
theorem d_M_used_11 : decode b_M_used 11 = .ok (.invokestatic 83, 3) := by decide +kernel
theorem d_M_used_14 : decode b_M_used 14 = .ok (.ifCond .ne 7, 3) := by decide +kernel
theorem d_M_used_17 : decode b_M_used 17 = .ok (.iconst 1, 1) := by decide +kernel
theorem d_M_used_18 : decode b_M_used 18 = .ok (.goto 4, 3) := by decide +kernel
theorem d_M_used_21 : decode b_M_used 21 = .ok (.iconst 0, 1) := by decide +kernel
theorem d_M_used_22 : decode b_M_used 22 = .ok (.iconst 1, 1) := by decide +kernel
theorem d_M_used_23 : decode b_M_used 23 = .ok (.invokevirtual 87, 3) := by decide +kernel
theorem d_M_used_26 : decode b_M_used 26 = .ok (.ifCond .eq 5, 3) := by decide +kernel
theorem d_M_used_29 : decode b_M_used 29 = .ok (.iconst 0, 1) := by decide +kernel
theorem d_M_used_30 : decode b_M_used 30 = .ok (.ireturn, 1) := by decide +kernel
theorem d_M_used_31 : decode b_M_used 31 = .ok (.aload_n 0, 1) := by decide +kernel
theorem d_M_used_32 : decode b_M_used 32 = .ok (.invokevirtual 121, 3) := by decide +kernel
theorem d_M_used_35 : decode b_M_used 35 = .ok (.aload_n 0, 1) := by decide +kernel
theorem d_M_used_36 : decode b_M_used 36 = .ok (.getfield 45, 3) := by decide +kernel
theorem d_M_used_39 : decode b_M_used 39 = .ok (.aload_n 0, 1) := by decide +kernel
theorem d_M_used_40 : decode b_M_used 40 = .ok (.getfield 61, 3) := by decide +kernel
theorem d_M_used_43 : decode b_M_used 43 = .ok (.iload_n 1, 1) := by decide +kernel
theorem d_M_used_44 : decode b_M_used 44 = .ok (.iaload, 1) := by decide +kernel
theorem d_M_used_45 : decode b_M_used 45 = .ok (.isub, 1) := by decide +kernel
theorem d_M_used_46 : decode b_M_used 46 = .ok (.ireturn, 1) := by decide +kernel
theorem d_M_cold_0 : decode b_M_cold 0 = .ok (.aload_n 0, 1) := by decide +kernel
theorem d_M_cold_1 : decode b_M_cold 1 = .ok (.iconst 0, 1) := by decide +kernel
theorem d_M_cold_2 : decode b_M_cold 2 = .ok (.putfield 77, 3) := by decide +kernel
theorem d_M_cold_5 : decode b_M_cold 5 = .ok (.aload_n 0, 1) := by decide +kernel
theorem d_M_cold_6 : decode b_M_cold 6 = .ok (.aload_n 0, 1) := by decide +kernel
theorem d_M_cold_7 : decode b_M_cold 7 = .ok (.iload_n 1, 1) := by decide +kernel
theorem d_M_cold_8 : decode b_M_cold 8 = .ok (.invokevirtual 95, 3) := by decide +kernel
theorem d_M_cold_11 : decode b_M_cold 11 = .ok (.ifCond .ne 7, 3) := by decide +kernel
theorem d_M_cold_14 : decode b_M_cold 14 = .ok (.iconst 1, 1) := by decide +kernel
theorem d_M_cold_15 : decode b_M_cold 15 = .ok (.goto 4, 3) := by decide +kernel
theorem d_M_cold_18 : decode b_M_cold 18 = .ok (.iconst 0, 1) := by decide +kernel
theorem d_M_cold_19 : decode b_M_cold 19 = .ok (.iconst 1, 1) := by decide +kernel
theorem d_M_cold_20 : decode b_M_cold 20 = .ok (.invokevirtual 87, 3) := by decide +kernel
theorem d_M_cold_23 : decode b_M_cold 23 = .ok (.ifCond .eq 5, 3) := by decide +kernel
theorem d_M_cold_26 : decode b_M_cold 26 = .ok (.iconst 0, 1) := by decide +kernel
theorem d_M_cold_27 : decode b_M_cold 27 = .ok (.ireturn, 1) := by decide +kernel
theorem d_M_cold_28 : decode b_M_cold 28 = .ok (.aload_n 0, 1) := by decide +kernel
theorem d_M_cold_29 : decode b_M_cold 29 = .ok (.invokevirtual 121, 3) := by decide +kernel
theorem d_M_cold_32 : decode b_M_cold 32 = .ok (.iconst 0, 1) := by decide +kernel
theorem d_M_cold_33 : decode b_M_cold 33 = .ok (.istore_n 2, 1) := by decide +kernel
theorem d_M_cold_34 : decode b_M_cold 34 = .ok (.aload_n 0, 1) := by decide +kernel
theorem d_M_cold_35 : decode b_M_cold 35 = .ok (.getfield 25, 3) := by decide +kernel
theorem d_M_cold_38 : decode b_M_cold 38 = .ok (.iload_n 1, 1) := by decide +kernel
theorem d_M_cold_39 : decode b_M_cold 39 = .ok (.iaload, 1) := by decide +kernel
theorem d_M_cold_40 : decode b_M_cold 40 = .ok (.istore_n 3, 1) := by decide +kernel
theorem d_M_cold_41 : decode b_M_cold 41 = .ok (.iload_n 3, 1) := by decide +kernel
theorem d_M_cold_42 : decode b_M_cold 42 = .ok (.ifCond .lt 45, 3) := by decide +kernel
theorem d_M_cold_45 : decode b_M_cold 45 = .ok (.iload_n 3, 1) := by decide +kernel
theorem d_M_cold_46 : decode b_M_cold 46 = .ok (.sipush 1440, 3) := by decide +kernel
theorem d_M_cold_49 : decode b_M_cold 49 = .ok (.if_icmp .ge 38, 3) := by decide +kernel
theorem d_M_cold_52 : decode b_M_cold 52 = .ok (.iload_n 2, 1) := by decide +kernel
theorem d_M_cold_53 : decode b_M_cold 53 = .ok (.aload_n 0, 1) := by decide +kernel
theorem d_M_cold_54 : decode b_M_cold 54 = .ok (.getfield 71, 3) := by decide +kernel
theorem d_M_cold_57 : decode b_M_cold 57 = .ok (.sipush 1441, 3) := by decide +kernel
theorem d_M_cold_60 : decode b_M_cold 60 = .ok (.iload_n 1, 1) := by decide +kernel
theorem d_M_cold_61 : decode b_M_cold 61 = .ok (.imul, 1) := by decide +kernel
theorem d_M_cold_62 : decode b_M_cold 62 = .ok (.iload_n 3, 1) := by decide +kernel
theorem d_M_cold_63 : decode b_M_cold 63 = .ok (.iadd, 1) := by decide +kernel
theorem d_M_cold_64 : decode b_M_cold 64 = .ok (.iaload, 1) := by decide +kernel
theorem d_M_cold_65 : decode b_M_cold 65 = .ok (.aload_n 0, 1) := by decide +kernel
theorem d_M_cold_66 : decode b_M_cold 66 = .ok (.getfield 28, 3) := by decide +kernel
theorem d_M_cold_69 : decode b_M_cold 69 = .ok (.iload_n 1, 1) := by decide +kernel
theorem d_M_cold_70 : decode b_M_cold 70 = .ok (.iaload, 1) := by decide +kernel
theorem d_M_cold_71 : decode b_M_cold 71 = .ok (.if_icmp .ge 7, 3) := by decide +kernel
theorem d_M_cold_74 : decode b_M_cold 74 = .ok (.iconst 1, 1) := by decide +kernel
theorem d_M_cold_75 : decode b_M_cold 75 = .ok (.goto 4, 3) := by decide +kernel
theorem d_M_cold_78 : decode b_M_cold 78 = .ok (.iconst 0, 1) := by decide +kernel
theorem d_M_cold_79 : decode b_M_cold 79 = .ok (.iadd, 1) := by decide +kernel
theorem d_M_cold_80 : decode b_M_cold 80 = .ok (.istore_n 2, 1) := by decide +kernel
theorem d_M_cold_81 : decode b_M_cold 81 = .ok (.iinc 3 1, 3) := by decide +kernel
theorem d_M_cold_84 : decode b_M_cold 84 = .ok (.goto (-43), 3) := by decide +kernel
theorem d_M_cold_87 : decode b_M_cold 87 = .ok (.iload_n 2, 1) := by decide +kernel
theorem d_M_cold_88 : decode b_M_cold 88 = .ok (.ireturn, 1) := by decide +kernel
theorem d_M_fade_0 : decode b_M_fade 0 = .ok (.aload_n 0, 1) := by decide +kernel
theorem d_M_fade_1 : decode b_M_fade 1 = .ok (.iconst 0, 1) := by decide +kernel
theorem d_M_fade_2 : decode b_M_fade 2 = .ok (.putfield 77, 3) := by decide +kernel
theorem d_M_fade_5 : decode b_M_fade 5 = .ok (.aload_n 0, 1) := by decide +kernel
theorem d_M_fade_6 : decode b_M_fade 6 = .ok (.iload_n 2, 1) := by decide +kernel
theorem d_M_fade_7 : decode b_M_fade 7 = .ok (.iconst 1, 1) := by decide +kernel
theorem d_M_fade_8 : decode b_M_fade 8 = .ok (.bipush 100, 2) := by decide +kernel
theorem d_M_fade_10 : decode b_M_fade 10 = .ok (.invokestatic 83, 3) := by decide +kernel
theorem d_M_fade_13 : decode b_M_fade 13 = .ok (.ifCond .eq 12, 3) := by decide +kernel
theorem d_M_fade_16 : decode b_M_fade 16 = .ok (.iload_n 1, 1) := by decide +kernel
theorem d_M_fade_17 : decode b_M_fade 17 = .ok (.iconst 0, 1) := by decide +kernel
theorem d_M_fade_18 : decode b_M_fade 18 = .ok (.iload_n 2, 1) := by decide +kernel
theorem d_M_fade_19 : decode b_M_fade 19 = .ok (.invokestatic 83, 3) := by decide +kernel
theorem d_M_fade_22 : decode b_M_fade 22 = .ok (.ifCond .ne 7, 3) := by decide +kernel
theorem d_M_fade_25 : decode b_M_fade 25 = .ok (.iconst 1, 1) := by decide +kernel
theorem d_M_fade_26 : decode b_M_fade 26 = .ok (.goto 4, 3) := by decide +kernel
theorem d_M_fade_29 : decode b_M_fade 29 = .ok (.iconst 0, 1) := by decide +kernel
theorem d_M_fade_30 : decode b_M_fade 30 = .ok (.iconst 1, 1) := by decide +kernel
theorem d_M_fade_31 : decode b_M_fade 31 = .ok (.invokevirtual 87, 3) := by decide +kernel
theorem d_M_fade_34 : decode b_M_fade 34 = .ok (.ifCond .eq 4, 3) := by decide +kernel
theorem d_M_fade_37 : decode b_M_fade 37 = .ok (.return_, 1) := by decide +kernel
theorem d_M_fade_38 : decode b_M_fade 38 = .ok (.aload_n 0, 1) := by decide +kernel
theorem d_M_fade_39 : decode b_M_fade 39 = .ok (.iload_n 1, 1) := by decide +kernel
theorem d_M_fade_40 : decode b_M_fade 40 = .ok (.putfield 52, 3) := by decide +kernel
theorem d_M_fade_43 : decode b_M_fade 43 = .ok (.aload_n 0, 1) := by decide +kernel
theorem d_M_fade_44 : decode b_M_fade 44 = .ok (.iload_n 2, 1) := by decide +kernel
theorem d_M_fade_45 : decode b_M_fade 45 = .ok (.putfield 55, 3) := by decide +kernel
theorem d_M_fade_48 : decode b_M_fade 48 = .ok (.return_, 1) := by decide +kernel
theorem d_M_divisor_0 : decode b_M_divisor 0 = .ok (.lload_n 0, 1) := by decide +kernel
theorem d_M_divisor_1 : decode b_M_divisor 1 = .ok (.lconst 0, 1) := by decide +kernel
theorem d_M_divisor_2 : decode b_M_divisor 2 = .ok (.lcmp, 1) := by decide +kernel
theorem d_M_divisor_3 : decode b_M_divisor 3 = .ok (.ifCond .ge 8, 3) := by decide +kernel
theorem d_M_divisor_6 : decode b_M_divisor 6 = .ok (.lload_n 0, 1) := by decide +kernel
theorem d_M_divisor_7 : decode b_M_divisor 7 = .ok (.lneg, 1) := by decide +kernel
theorem d_M_divisor_8 : decode b_M_divisor 8 = .ok (.goto 4, 3) := by decide +kernel
theorem d_M_divisor_11 : decode b_M_divisor 11 = .ok (.lload_n 0, 1) := by decide +kernel
theorem d_M_divisor_12 : decode b_M_divisor 12 = .ok (.lstore 4, 2) := by decide +kernel
theorem d_M_divisor_14 : decode b_M_divisor 14 = .ok (.lload_n 2, 1) := by decide +kernel
theorem d_M_divisor_15 : decode b_M_divisor 15 = .ok (.lstore 6, 2) := by decide +kernel
theorem d_M_divisor_17 : decode b_M_divisor 17 = .ok (.lload 6, 2) := by decide +kernel
theorem d_M_divisor_19 : decode b_M_divisor 19 = .ok (.lconst 0, 1) := by decide +kernel
theorem d_M_divisor_20 : decode b_M_divisor 20 = .ok (.lcmp, 1) := by decide +kernel
theorem d_M_divisor_21 : decode b_M_divisor 21 = .ok (.ifCond .eq 21, 3) := by decide +kernel
theorem d_M_divisor_24 : decode b_M_divisor 24 = .ok (.lload 4, 2) := by decide +kernel
theorem d_M_divisor_26 : decode b_M_divisor 26 = .ok (.lload 6, 2) := by decide +kernel
theorem d_M_divisor_28 : decode b_M_divisor 28 = .ok (.lrem, 1) := by decide +kernel
theorem d_M_divisor_29 : decode b_M_divisor 29 = .ok (.lstore 8, 2) := by decide +kernel
theorem d_M_divisor_31 : decode b_M_divisor 31 = .ok (.lload 6, 2) := by decide +kernel
theorem d_M_divisor_33 : decode b_M_divisor 33 = .ok (.lstore 4, 2) := by decide +kernel
theorem d_M_divisor_35 : decode b_M_divisor 35 = .ok (.lload 8, 2) := by decide +kernel
theorem d_M_divisor_37 : decode b_M_divisor 37 = .ok (.lstore 6, 2) := by decide +kernel
theorem d_M_divisor_39 : decode b_M_divisor 39 = .ok (.goto (-22), 3) := by decide +kernel
theorem d_M_divisor_42 : decode b_M_divisor 42 = .ok (.lload 4, 2) := by decide +kernel
theorem d_M_divisor_44 : decode b_M_divisor 44 = .ok (.lreturn, 1) := by decide +kernel
theorem d_M_day_0 : decode b_M_day 0 = .ok (.aload_n 0, 1) := by decide +kernel
theorem d_M_day_1 : decode b_M_day 1 = .ok (.iconst 0, 1) := by decide +kernel
theorem d_M_day_2 : decode b_M_day 2 = .ok (.putfield 77, 3) := by decide +kernel
theorem d_M_day_5 : decode b_M_day 5 = .ok (.aload_n 0, 1) := by decide +kernel
theorem d_M_day_6 : decode b_M_day 6 = .ok (.aload_n 0, 1) := by decide +kernel
theorem d_M_day_7 : decode b_M_day 7 = .ok (.iload_n 1, 1) := by decide +kernel
theorem d_M_day_8 : decode b_M_day 8 = .ok (.invokevirtual 95, 3) := by decide +kernel
theorem d_M_day_11 : decode b_M_day 11 = .ok (.ifCond .eq 16, 3) := by decide +kernel
theorem d_M_day_14 : decode b_M_day 14 = .ok (.iload_n 2, 1) := by decide +kernel
theorem d_M_day_15 : decode b_M_day 15 = .ok (.sipush (-1440), 3) := by decide +kernel
theorem d_M_day_18 : decode b_M_day 18 = .ok (.sipush 1440, 3) := by decide +kernel
theorem d_M_day_21 : decode b_M_day 21 = .ok (.invokestatic 83, 3) := by decide +kernel
theorem d_M_day_24 : decode b_M_day 24 = .ok (.ifCond .ne 7, 3) := by decide +kernel
theorem d_M_day_27 : decode b_M_day 27 = .ok (.iconst 1, 1) := by decide +kernel
theorem d_M_day_28 : decode b_M_day 28 = .ok (.goto 4, 3) := by decide +kernel
theorem d_M_day_31 : decode b_M_day 31 = .ok (.iconst 0, 1) := by decide +kernel
theorem d_M_day_32 : decode b_M_day 32 = .ok (.iconst 1, 1) := by decide +kernel
theorem d_M_day_33 : decode b_M_day 33 = .ok (.invokevirtual 87, 3) := by decide +kernel
theorem d_M_day_36 : decode b_M_day 36 = .ok (.ifCond .eq 4, 3) := by decide +kernel
theorem d_M_day_39 : decode b_M_day 39 = .ok (.return_, 1) := by decide +kernel
theorem d_M_day_40 : decode b_M_day 40 = .ok (.aload_n 0, 1) := by decide +kernel
theorem d_M_day_41 : decode b_M_day 41 = .ok (.getfield 31, 3) := by decide +kernel
theorem d_M_day_44 : decode b_M_day 44 = .ok (.iload_n 1, 1) := by decide +kernel
theorem d_M_day_45 : decode b_M_day 45 = .ok (.laload, 1) := by decide +kernel
theorem d_M_day_46 : decode b_M_day 46 = .ok (.aload_n 0, 1) := by decide +kernel
theorem d_M_day_47 : decode b_M_day 47 = .ok (.getfield 55, 3) := by decide +kernel
theorem d_M_day_50 : decode b_M_day 50 = .ok (.aload_n 0, 1) := by decide +kernel
theorem d_M_day_51 : decode b_M_day 51 = .ok (.getfield 52, 3) := by decide +kernel
theorem d_M_day_54 : decode b_M_day 54 = .ok (.isub, 1) := by decide +kernel
theorem d_M_day_55 : decode b_M_day 55 = .ok (.i2l, 1) := by decide +kernel
theorem d_M_day_56 : decode b_M_day 56 = .ok (.lmul, 1) := by decide +kernel
theorem d_M_day_57 : decode b_M_day 57 = .ok (.iload_n 2, 1) := by decide +kernel
theorem d_M_day_58 : decode b_M_day 58 = .ok (.i2l, 1) := by decide +kernel
theorem d_M_day_59 : decode b_M_day 59 = .ok (.aload_n 0, 1) := by decide +kernel
theorem d_M_day_60 : decode b_M_day 60 = .ok (.getfield 35, 3) := by decide +kernel
theorem d_M_day_63 : decode b_M_day 63 = .ok (.iload_n 1, 1) := by decide +kernel
theorem d_M_day_64 : decode b_M_day 64 = .ok (.laload, 1) := by decide +kernel
theorem d_M_day_65 : decode b_M_day 65 = .ok (.lmul, 1) := by decide +kernel
theorem d_M_day_66 : decode b_M_day 66 = .ok (.aload_n 0, 1) := by decide +kernel
theorem d_M_day_67 : decode b_M_day 67 = .ok (.getfield 52, 3) := by decide +kernel
theorem d_M_day_70 : decode b_M_day 70 = .ok (.i2l, 1) := by decide +kernel
theorem d_M_day_71 : decode b_M_day 71 = .ok (.lmul, 1) := by decide +kernel
theorem d_M_day_72 : decode b_M_day 72 = .ok (.ladd, 1) := by decide +kernel
theorem d_M_day_73 : decode b_M_day 73 = .ok (.lstore_n 3, 1) := by decide +kernel
theorem d_M_day_74 : decode b_M_day 74 = .ok (.aload_n 0, 1) := by decide +kernel
theorem d_M_day_75 : decode b_M_day 75 = .ok (.getfield 35, 3) := by decide +kernel
theorem d_M_day_78 : decode b_M_day 78 = .ok (.iload_n 1, 1) := by decide +kernel
theorem d_M_day_79 : decode b_M_day 79 = .ok (.laload, 1) := by decide +kernel
theorem d_M_day_80 : decode b_M_day 80 = .ok (.aload_n 0, 1) := by decide +kernel
theorem d_M_day_81 : decode b_M_day 81 = .ok (.getfield 55, 3) := by decide +kernel
theorem d_M_day_84 : decode b_M_day 84 = .ok (.i2l, 1) := by decide +kernel
theorem d_M_day_85 : decode b_M_day 85 = .ok (.lmul, 1) := by decide +kernel
theorem d_M_day_86 : decode b_M_day 86 = .ok (.lstore 5, 2) := by decide +kernel
theorem d_M_day_88 : decode b_M_day 88 = .ok (.lload_n 3, 1) := by decide +kernel
theorem d_M_day_89 : decode b_M_day 89 = .ok (.lload 5, 2) := by decide +kernel
theorem d_M_day_91 : decode b_M_day 91 = .ok (.invokestatic 124, 3) := by decide +kernel
theorem d_M_day_94 : decode b_M_day 94 = .ok (.lstore 7, 2) := by decide +kernel
theorem d_M_day_96 : decode b_M_day 96 = .ok (.lload 5, 2) := by decide +kernel
theorem d_M_day_98 : decode b_M_day 98 = .ok (.lload 7, 2) := by decide +kernel
theorem d_M_day_100 : decode b_M_day 100 = .ok (.ldiv, 1) := by decide +kernel
theorem d_M_day_101 : decode b_M_day 101 = .ok (.ldc2_w 128, 3) := by decide +kernel
theorem d_M_day_104 : decode b_M_day 104 = .ok (.lcmp, 1) := by decide +kernel
theorem d_M_day_105 : decode b_M_day 105 = .ok (.ifCond .le 37, 3) := by decide +kernel
theorem d_M_day_108 : decode b_M_day 108 = .ok (.lload_n 3, 1) := by decide +kernel
theorem d_M_day_109 : decode b_M_day 109 = .ok (.lload 5, 2) := by decide +kernel
theorem d_M_day_111 : decode b_M_day 111 = .ok (.ldiv, 1) := by decide +kernel
theorem d_M_day_112 : decode b_M_day 112 = .ok (.ldc2_w 130, 3) := by decide +kernel
theorem d_M_day_115 : decode b_M_day 115 = .ok (.lmul, 1) := by decide +kernel
theorem d_M_day_116 : decode b_M_day 116 = .ok (.lload_n 3, 1) := by decide +kernel
theorem d_M_day_117 : decode b_M_day 117 = .ok (.lload 5, 2) := by decide +kernel
theorem d_M_day_119 : decode b_M_day 119 = .ok (.lrem, 1) := by decide +kernel
theorem d_M_day_120 : decode b_M_day 120 = .ok (.ldc2_w 130, 3) := by decide +kernel
theorem d_M_day_123 : decode b_M_day 123 = .ok (.lmul, 1) := by decide +kernel
theorem d_M_day_124 : decode b_M_day 124 = .ok (.lload 5, 2) := by decide +kernel
theorem d_M_day_126 : decode b_M_day 126 = .ok (.ldiv, 1) := by decide +kernel
theorem d_M_day_127 : decode b_M_day 127 = .ok (.ladd, 1) := by decide +kernel
theorem d_M_day_128 : decode b_M_day 128 = .ok (.lstore_n 3, 1) := by decide +kernel
theorem d_M_day_129 : decode b_M_day 129 = .ok (.ldc2_w 130, 3) := by decide +kernel
theorem d_M_day_132 : decode b_M_day 132 = .ok (.lstore 5, 2) := by decide +kernel
theorem d_M_day_134 : decode b_M_day 134 = .ok (.lload_n 3, 1) := by decide +kernel
theorem d_M_day_135 : decode b_M_day 135 = .ok (.lload 5, 2) := by decide +kernel
theorem d_M_day_137 : decode b_M_day 137 = .ok (.invokestatic 124, 3) := by decide +kernel
theorem d_M_day_140 : decode b_M_day 140 = .ok (.lstore 7, 2) := by decide +kernel
theorem d_M_day_142 : decode b_M_day 142 = .ok (.aload_n 0, 1) := by decide +kernel
theorem d_M_day_143 : decode b_M_day 143 = .ok (.getfield 31, 3) := by decide +kernel
theorem d_M_day_146 : decode b_M_day 146 = .ok (.iload_n 1, 1) := by decide +kernel
theorem d_M_day_147 : decode b_M_day 147 = .ok (.lload_n 3, 1) := by decide +kernel
theorem d_M_day_148 : decode b_M_day 148 = .ok (.lload 7, 2) := by decide +kernel
theorem d_M_day_150 : decode b_M_day 150 = .ok (.ldiv, 1) := by decide +kernel
theorem d_M_day_151 : decode b_M_day 151 = .ok (.lastore, 1) := by decide +kernel
theorem d_M_day_152 : decode b_M_day 152 = .ok (.aload_n 0, 1) := by decide +kernel
theorem d_M_day_153 : decode b_M_day 153 = .ok (.getfield 35, 3) := by decide +kernel
theorem d_M_day_156 : decode b_M_day 156 = .ok (.iload_n 1, 1) := by decide +kernel
theorem d_M_day_157 : decode b_M_day 157 = .ok (.lload 5, 2) := by decide +kernel
theorem d_M_day_159 : decode b_M_day 159 = .ok (.lload 7, 2) := by decide +kernel
theorem d_M_day_161 : decode b_M_day 161 = .ok (.ldiv, 1) := by decide +kernel
theorem d_M_day_162 : decode b_M_day 162 = .ok (.lastore, 1) := by decide +kernel
theorem d_M_day_163 : decode b_M_day 163 = .ok (.return_, 1) := by decide +kernel
theorem d_M_lesson_0 : decode b_M_lesson 0 = .ok (.aload_n 0, 1) := by decide +kernel
theorem d_M_lesson_1 : decode b_M_lesson 1 = .ok (.iconst 0, 1) := by decide +kernel
theorem d_M_lesson_2 : decode b_M_lesson 2 = .ok (.putfield 77, 3) := by decide +kernel
theorem d_M_lesson_5 : decode b_M_lesson 5 = .ok (.aload_n 0, 1) := by decide +kernel
theorem d_M_lesson_6 : decode b_M_lesson 6 = .ok (.aload_n 0, 1) := by decide +kernel
theorem d_M_lesson_7 : decode b_M_lesson 7 = .ok (.iload_n 1, 1) := by decide +kernel
theorem d_M_lesson_8 : decode b_M_lesson 8 = .ok (.invokevirtual 95, 3) := by decide +kernel
theorem d_M_lesson_11 : decode b_M_lesson 11 = .ok (.ifCond .eq 12, 3) := by decide +kernel
theorem d_M_lesson_14 : decode b_M_lesson 14 = .ok (.iload_n 2, 1) := by decide +kernel
theorem d_M_lesson_15 : decode b_M_lesson 15 = .ok (.iconst 0, 1) := by decide +kernel
theorem d_M_lesson_16 : decode b_M_lesson 16 = .ok (.iconst 1, 1) := by decide +kernel
theorem d_M_lesson_17 : decode b_M_lesson 17 = .ok (.invokestatic 83, 3) := by decide +kernel
theorem d_M_lesson_20 : decode b_M_lesson 20 = .ok (.ifCond .ne 7, 3) := by decide +kernel
theorem d_M_lesson_23 : decode b_M_lesson 23 = .ok (.iconst 1, 1) := by decide +kernel
theorem d_M_lesson_24 : decode b_M_lesson 24 = .ok (.goto 4, 3) := by decide +kernel
theorem d_M_lesson_27 : decode b_M_lesson 27 = .ok (.iconst 0, 1) := by decide +kernel
theorem d_M_lesson_28 : decode b_M_lesson 28 = .ok (.iconst 1, 1) := by decide +kernel
theorem d_M_lesson_29 : decode b_M_lesson 29 = .ok (.invokevirtual 87, 3) := by decide +kernel
theorem d_M_lesson_32 : decode b_M_lesson 32 = .ok (.ifCond .eq 5, 3) := by decide +kernel
theorem d_M_lesson_35 : decode b_M_lesson 35 = .ok (.lconst 0, 1) := by decide +kernel
theorem d_M_lesson_36 : decode b_M_lesson 36 = .ok (.lreturn, 1) := by decide +kernel
theorem d_M_lesson_37 : decode b_M_lesson 37 = .ok (.iload_n 2, 1) := by decide +kernel
theorem d_M_lesson_38 : decode b_M_lesson 38 = .ok (.ifCond .ne 12, 3) := by decide +kernel
theorem d_M_lesson_41 : decode b_M_lesson 41 = .ok (.aload_n 0, 1) := by decide +kernel
theorem d_M_lesson_42 : decode b_M_lesson 42 = .ok (.getfield 31, 3) := by decide +kernel
theorem d_M_lesson_45 : decode b_M_lesson 45 = .ok (.iload_n 1, 1) := by decide +kernel
theorem d_M_lesson_46 : decode b_M_lesson 46 = .ok (.laload, 1) := by decide +kernel
theorem d_M_lesson_47 : decode b_M_lesson 47 = .ok (.goto 9, 3) := by decide +kernel
theorem d_M_lesson_50 : decode b_M_lesson 50 = .ok (.aload_n 0, 1) := by decide +kernel
theorem d_M_lesson_51 : decode b_M_lesson 51 = .ok (.getfield 35, 3) := by decide +kernel
theorem d_M_lesson_54 : decode b_M_lesson 54 = .ok (.iload_n 1, 1) := by decide +kernel
theorem d_M_lesson_55 : decode b_M_lesson 55 = .ok (.laload, 1) := by decide +kernel
theorem d_M_lesson_56 : decode b_M_lesson 56 = .ok (.lreturn, 1) := by decide +kernel
theorem d_M_taught_0 : decode b_M_taught 0 = .ok (.aload_n 0, 1) := by decide +kernel
theorem d_M_taught_1 : decode b_M_taught 1 = .ok (.iconst 0, 1) := by decide +kernel
theorem d_M_taught_2 : decode b_M_taught 2 = .ok (.putfield 77, 3) := by decide +kernel
theorem d_M_taught_5 : decode b_M_taught 5 = .ok (.aload_n 0, 1) := by decide +kernel
theorem d_M_taught_6 : decode b_M_taught 6 = .ok (.aload_n 0, 1) := by decide +kernel
theorem d_M_taught_7 : decode b_M_taught 7 = .ok (.iload_n 1, 1) := by decide +kernel
theorem d_M_taught_8 : decode b_M_taught 8 = .ok (.invokevirtual 95, 3) := by decide +kernel
theorem d_M_taught_11 : decode b_M_taught 11 = .ok (.ifCond .ne 7, 3) := by decide +kernel
theorem d_M_taught_14 : decode b_M_taught 14 = .ok (.iconst 1, 1) := by decide +kernel
theorem d_M_taught_15 : decode b_M_taught 15 = .ok (.goto 4, 3) := by decide +kernel
theorem d_M_taught_18 : decode b_M_taught 18 = .ok (.iconst 0, 1) := by decide +kernel
theorem d_M_taught_19 : decode b_M_taught 19 = .ok (.iconst 1, 1) := by decide +kernel
theorem d_M_taught_20 : decode b_M_taught 20 = .ok (.invokevirtual 87, 3) := by decide +kernel
theorem d_M_taught_23 : decode b_M_taught 23 = .ok (.ifCond .eq 5, 3) := by decide +kernel
theorem d_M_taught_26 : decode b_M_taught 26 = .ok (.iconst 0, 1) := by decide +kernel
theorem d_M_taught_27 : decode b_M_taught 27 = .ok (.ireturn, 1) := by decide +kernel
theorem d_M_taught_28 : decode b_M_taught 28 = .ok (.aload_n 0, 1) := by decide +kernel
theorem d_M_taught_29 : decode b_M_taught 29 = .ok (.invokevirtual 121, 3) := by decide +kernel
theorem d_M_taught_32 : decode b_M_taught 32 = .ok (.aload_n 0, 1) := by decide +kernel
theorem d_M_taught_33 : decode b_M_taught 33 = .ok (.getfield 64, 3) := by decide +kernel
theorem d_M_taught_36 : decode b_M_taught 36 = .ok (.iload_n 1, 1) := by decide +kernel
theorem d_M_taught_37 : decode b_M_taught 37 = .ok (.iaload, 1) := by decide +kernel
theorem d_M_taught_38 : decode b_M_taught 38 = .ok (.iconst (-1), 1) := by decide +kernel
theorem d_M_taught_39 : decode b_M_taught 39 = .ok (.if_icmp .ne 5, 3) := by decide +kernel
theorem d_M_taught_42 : decode b_M_taught 42 = .ok (.iconst (-1), 1) := by decide +kernel
theorem d_M_taught_43 : decode b_M_taught 43 = .ok (.ireturn, 1) := by decide +kernel
theorem d_M_taught_44 : decode b_M_taught 44 = .ok (.aload_n 0, 1) := by decide +kernel
theorem d_M_taught_45 : decode b_M_taught 45 = .ok (.getfield 64, 3) := by decide +kernel
theorem d_M_taught_48 : decode b_M_taught 48 = .ok (.iload_n 1, 1) := by decide +kernel
theorem d_M_taught_49 : decode b_M_taught 49 = .ok (.iaload, 1) := by decide +kernel
theorem d_M_taught_50 : decode b_M_taught 50 = .ok (.i2l, 1) := by decide +kernel
theorem d_M_taught_51 : decode b_M_taught 51 = .ok (.aload_n 0, 1) := by decide +kernel
theorem d_M_taught_52 : decode b_M_taught 52 = .ok (.getfield 31, 3) := by decide +kernel
theorem d_M_taught_55 : decode b_M_taught 55 = .ok (.iload_n 1, 1) := by decide +kernel
theorem d_M_taught_56 : decode b_M_taught 56 = .ok (.laload, 1) := by decide +kernel
theorem d_M_taught_57 : decode b_M_taught 57 = .ok (.aload_n 0, 1) := by decide +kernel
theorem d_M_taught_58 : decode b_M_taught 58 = .ok (.getfield 35, 3) := by decide +kernel
theorem d_M_taught_61 : decode b_M_taught 61 = .ok (.iload_n 1, 1) := by decide +kernel
theorem d_M_taught_62 : decode b_M_taught 62 = .ok (.laload, 1) := by decide +kernel
theorem d_M_taught_63 : decode b_M_taught 63 = .ok (.ldiv, 1) := by decide +kernel
theorem d_M_taught_64 : decode b_M_taught 64 = .ok (.lsub, 1) := by decide +kernel
theorem d_M_taught_65 : decode b_M_taught 65 = .ok (.lstore_n 2, 1) := by decide +kernel
theorem d_M_taught_66 : decode b_M_taught 66 = .ok (.lload_n 2, 1) := by decide +kernel
theorem d_M_taught_67 : decode b_M_taught 67 = .ok (.lconst 0, 1) := by decide +kernel
theorem d_M_taught_68 : decode b_M_taught 68 = .ok (.lcmp, 1) := by decide +kernel
theorem d_M_taught_69 : decode b_M_taught 69 = .ok (.ifCond .ge 7, 3) := by decide +kernel
theorem d_M_taught_72 : decode b_M_taught 72 = .ok (.iconst 0, 1) := by decide +kernel
theorem d_M_taught_73 : decode b_M_taught 73 = .ok (.goto 19, 3) := by decide +kernel
theorem d_M_taught_76 : decode b_M_taught 76 = .ok (.lload_n 2, 1) := by decide +kernel
theorem d_M_taught_77 : decode b_M_taught 77 = .ok (.ldc2_w 132, 3) := by decide +kernel
theorem d_M_taught_80 : decode b_M_taught 80 = .ok (.lcmp, 1) := by decide +kernel
theorem d_M_taught_81 : decode b_M_taught 81 = .ok (.ifCond .le 9, 3) := by decide +kernel
theorem d_M_taught_84 : decode b_M_taught 84 = .ok (.sipush 1439, 3) := by decide +kernel
theorem d_M_taught_87 : decode b_M_taught 87 = .ok (.goto 5, 3) := by decide +kernel
theorem d_M_taught_90 : decode b_M_taught 90 = .ok (.lload_n 2, 1) := by decide +kernel
theorem d_M_taught_91 : decode b_M_taught 91 = .ok (.l2i, 1) := by decide +kernel
theorem d_M_taught_92 : decode b_M_taught 92 = .ok (.ireturn, 1) := by decide +kernel
theorem d_M_price_0 : decode b_M_price 0 = .ok (.aload_n 0, 1) := by decide +kernel
theorem d_M_price_1 : decode b_M_price 1 = .ok (.iconst 0, 1) := by decide +kernel
theorem d_M_price_2 : decode b_M_price 2 = .ok (.putfield 77, 3) := by decide +kernel
theorem d_M_price_5 : decode b_M_price 5 = .ok (.aload_n 0, 1) := by decide +kernel
theorem d_M_price_6 : decode b_M_price 6 = .ok (.iload_n 1, 1) := by decide +kernel
theorem d_M_price_7 : decode b_M_price 7 = .ok (.iconst 0, 1) := by decide +kernel
theorem d_M_price_8 : decode b_M_price 8 = .ok (.bipush 23, 2) := by decide +kernel
theorem d_M_price_10 : decode b_M_price 10 = .ok (.invokestatic 83, 3) := by decide +kernel
theorem d_M_price_13 : decode b_M_price 13 = .ok (.ifCond .eq 14, 3) := by decide +kernel
theorem d_M_price_16 : decode b_M_price 16 = .ok (.iload_n 2, 1) := by decide +kernel
theorem d_M_price_17 : decode b_M_price 17 = .ok (.iconst 0, 1) := by decide +kernel
theorem d_M_price_18 : decode b_M_price 18 = .ok (.sipush 1000, 3) := by decide +kernel
theorem d_M_price_21 : decode b_M_price 21 = .ok (.invokestatic 83, 3) := by decide +kernel
theorem d_M_price_24 : decode b_M_price 24 = .ok (.ifCond .ne 7, 3) := by decide +kernel
theorem d_M_price_27 : decode b_M_price 27 = .ok (.iconst 1, 1) := by decide +kernel
theorem d_M_price_28 : decode b_M_price 28 = .ok (.goto 4, 3) := by decide +kernel
theorem d_M_price_31 : decode b_M_price 31 = .ok (.iconst 0, 1) := by decide +kernel
theorem d_M_price_32 : decode b_M_price 32 = .ok (.iconst 1, 1) := by decide +kernel
theorem d_M_price_33 : decode b_M_price 33 = .ok (.invokevirtual 87, 3) := by decide +kernel
theorem d_M_price_36 : decode b_M_price 36 = .ok (.ifCond .eq 5, 3) := by decide +kernel
theorem d_M_price_39 : decode b_M_price 39 = .ok (.iconst 0, 1) := by decide +kernel
theorem d_M_price_40 : decode b_M_price 40 = .ok (.ireturn, 1) := by decide +kernel
theorem d_M_price_41 : decode b_M_price 41 = .ok (.aload_n 0, 1) := by decide +kernel
theorem d_M_price_42 : decode b_M_price 42 = .ok (.getfield 49, 3) := by decide +kernel
theorem d_M_price_45 : decode b_M_price 45 = .ok (.iload_n 1, 1) := by decide +kernel
theorem d_M_price_46 : decode b_M_price 46 = .ok (.iaload, 1) := by decide +kernel
theorem d_M_price_47 : decode b_M_price 47 = .ok (.istore_n 3, 1) := by decide +kernel
theorem d_M_price_48 : decode b_M_price 48 = .ok (.aload_n 0, 1) := by decide +kernel
theorem d_M_price_49 : decode b_M_price 49 = .ok (.getfield 49, 3) := by decide +kernel
theorem d_M_price_52 : decode b_M_price 52 = .ok (.iload_n 1, 1) := by decide +kernel
theorem d_M_price_53 : decode b_M_price 53 = .ok (.iload_n 2, 1) := by decide +kernel
theorem d_M_price_54 : decode b_M_price 54 = .ok (.iastore, 1) := by decide +kernel
theorem d_M_price_55 : decode b_M_price 55 = .ok (.iload_n 3, 1) := by decide +kernel
theorem d_M_price_56 : decode b_M_price 56 = .ok (.ireturn, 1) := by decide +kernel
theorem d_M_areQuarters_0 : decode b_M_areQuarters 0 = .ok (.aload_n 0, 1) := by decide +kernel
theorem d_M_areQuarters_1 : decode b_M_areQuarters 1 = .ok (.iload_n 1, 1) := by decide +kernel
theorem d_M_areQuarters_2 : decode b_M_areQuarters 2 = .ok (.invokevirtual 95, 3) := by decide +kernel
theorem d_M_areQuarters_5 : decode b_M_areQuarters 5 = .ok (.ifCond .eq 27, 3) := by decide +kernel
theorem d_M_areQuarters_8 : decode b_M_areQuarters 8 = .ok (.iload_n 2, 1) := by decide +kernel
theorem d_M_areQuarters_9 : decode b_M_areQuarters 9 = .ok (.iconst 1, 1) := by decide +kernel
theorem d_M_areQuarters_10 : decode b_M_areQuarters 10 = .ok (.bipush 10, 2) := by decide +kernel
theorem d_M_areQuarters_12 : decode b_M_areQuarters 12 = .ok (.invokestatic 83, 3) := by decide +kernel
theorem d_M_areQuarters_15 : decode b_M_areQuarters 15 = .ok (.ifCond .eq 17, 3) := by decide +kernel
theorem d_M_areQuarters_18 : decode b_M_areQuarters 18 = .ok (.iload_n 3, 1) := by decide +kernel
theorem d_M_areQuarters_19 : decode b_M_areQuarters 19 = .ok (.iconst 1, 1) := by decide +kernel
theorem d_M_areQuarters_20 : decode b_M_areQuarters 20 = .ok (.bipush 30, 2) := by decide +kernel
theorem d_M_areQuarters_22 : decode b_M_areQuarters 22 = .ok (.invokestatic 83, 3) := by decide +kernel
theorem d_M_areQuarters_25 : decode b_M_areQuarters 25 = .ok (.ifCond .eq 7, 3) := by decide +kernel
theorem d_M_areQuarters_28 : decode b_M_areQuarters 28 = .ok (.iconst 1, 1) := by decide +kernel
theorem d_M_areQuarters_29 : decode b_M_areQuarters 29 = .ok (.goto 4, 3) := by decide +kernel
theorem d_M_areQuarters_32 : decode b_M_areQuarters 32 = .ok (.iconst 0, 1) := by decide +kernel
theorem d_M_areQuarters_33 : decode b_M_areQuarters 33 = .ok (.ireturn, 1) := by decide +kernel
theorem d_M_reckoned_0 : decode b_M_reckoned 0 = .ok (.aload_n 0, 1) := by decide +kernel
theorem d_M_reckoned_1 : decode b_M_reckoned 1 = .ok (.getfield 16, 3) := by decide +kernel
theorem d_M_reckoned_4 : decode b_M_reckoned 4 = .ok (.iload_n 1, 1) := by decide +kernel
theorem d_M_reckoned_5 : decode b_M_reckoned 5 = .ok (.iaload, 1) := by decide +kernel
theorem d_M_reckoned_6 : decode b_M_reckoned 6 = .ok (.istore 5, 2) := by decide +kernel
theorem d_M_reckoned_8 : decode b_M_reckoned 8 = .ok (.aload_n 0, 1) := by decide +kernel
theorem d_M_reckoned_9 : decode b_M_reckoned 9 = .ok (.getfield 25, 3) := by decide +kernel
theorem d_M_reckoned_12 : decode b_M_reckoned 12 = .ok (.iload_n 1, 1) := by decide +kernel
theorem d_M_reckoned_13 : decode b_M_reckoned 13 = .ok (.iaload, 1) := by decide +kernel
theorem d_M_reckoned_14 : decode b_M_reckoned 14 = .ok (.iload_n 2, 1) := by decide +kernel
theorem d_M_reckoned_15 : decode b_M_reckoned 15 = .ok (.iload_n 3, 1) := by decide +kernel
theorem d_M_reckoned_16 : decode b_M_reckoned 16 = .ok (.imul, 1) := by decide +kernel
theorem d_M_reckoned_17 : decode b_M_reckoned 17 = .ok (.isub, 1) := by decide +kernel
theorem d_M_reckoned_18 : decode b_M_reckoned 18 = .ok (.istore 6, 2) := by decide +kernel
theorem d_M_reckoned_20 : decode b_M_reckoned 20 = .ok (.lconst 0, 1) := by decide +kernel
theorem d_M_reckoned_21 : decode b_M_reckoned 21 = .ok (.lstore 7, 2) := by decide +kernel
theorem d_M_reckoned_23 : decode b_M_reckoned 23 = .ok (.iconst 0, 1) := by decide +kernel
theorem d_M_reckoned_24 : decode b_M_reckoned 24 = .ok (.istore 9, 2) := by decide +kernel
theorem d_M_reckoned_26 : decode b_M_reckoned 26 = .ok (.iload 9, 2) := by decide +kernel
theorem d_M_reckoned_28 : decode b_M_reckoned 28 = .ok (.aload_n 0, 1) := by decide +kernel
theorem d_M_reckoned_29 : decode b_M_reckoned 29 = .ok (.getfield 25, 3) := by decide +kernel
theorem d_M_reckoned_32 : decode b_M_reckoned 32 = .ok (.iload_n 1, 1) := by decide +kernel
theorem d_M_reckoned_33 : decode b_M_reckoned 33 = .ok (.iaload, 1) := by decide +kernel
theorem d_M_reckoned_34 : decode b_M_reckoned 34 = .ok (.if_icmp .ge 98, 3) := by decide +kernel
theorem d_M_reckoned_37 : decode b_M_reckoned 37 = .ok (.iload 9, 2) := by decide +kernel
theorem d_M_reckoned_39 : decode b_M_reckoned 39 = .ok (.iload 6, 2) := by decide +kernel
theorem d_M_reckoned_41 : decode b_M_reckoned 41 = .ok (.if_icmp .lt 23, 3) := by decide +kernel
theorem d_M_reckoned_44 : decode b_M_reckoned 44 = .ok (.iload 4, 2) := by decide +kernel
theorem d_M_reckoned_46 : decode b_M_reckoned 46 = .ok (.iload 9, 2) := by decide +kernel
theorem d_M_reckoned_48 : decode b_M_reckoned 48 = .ok (.iload 6, 2) := by decide +kernel
theorem d_M_reckoned_50 : decode b_M_reckoned 50 = .ok (.isub, 1) := by decide +kernel
theorem d_M_reckoned_51 : decode b_M_reckoned 51 = .ok (.iload_n 3, 1) := by decide +kernel
theorem d_M_reckoned_52 : decode b_M_reckoned 52 = .ok (.idiv, 1) := by decide +kernel
theorem d_M_reckoned_53 : decode b_M_reckoned 53 = .ok (.ishr, 1) := by decide +kernel
theorem d_M_reckoned_54 : decode b_M_reckoned 54 = .ok (.iconst 1, 1) := by decide +kernel
theorem d_M_reckoned_55 : decode b_M_reckoned 55 = .ok (.iand, 1) := by decide +kernel
theorem d_M_reckoned_56 : decode b_M_reckoned 56 = .ok (.iconst 1, 1) := by decide +kernel
theorem d_M_reckoned_57 : decode b_M_reckoned 57 = .ok (.if_icmp .ne 7, 3) := by decide +kernel
theorem d_M_reckoned_60 : decode b_M_reckoned 60 = .ok (.iconst 1, 1) := by decide +kernel
theorem d_M_reckoned_61 : decode b_M_reckoned 61 = .ok (.goto 4, 3) := by decide +kernel
theorem d_M_reckoned_64 : decode b_M_reckoned 64 = .ok (.iconst 0, 1) := by decide +kernel
theorem d_M_reckoned_65 : decode b_M_reckoned 65 = .ok (.istore 10, 2) := by decide +kernel
theorem d_M_reckoned_67 : decode b_M_reckoned 67 = .ok (.aload_n 0, 1) := by decide +kernel
theorem d_M_reckoned_68 : decode b_M_reckoned 68 = .ok (.iload_n 1, 1) := by decide +kernel
theorem d_M_reckoned_69 : decode b_M_reckoned 69 = .ok (.iload 5, 2) := by decide +kernel
theorem d_M_reckoned_71 : decode b_M_reckoned 71 = .ok (.iload 9, 2) := by decide +kernel
theorem d_M_reckoned_73 : decode b_M_reckoned 73 = .ok (.iload 10, 2) := by decide +kernel
theorem d_M_reckoned_75 : decode b_M_reckoned 75 = .ok (.ifCond .eq 12, 3) := by decide +kernel
theorem d_M_reckoned_78 : decode b_M_reckoned 78 = .ok (.aload_n 0, 1) := by decide +kernel
theorem d_M_reckoned_79 : decode b_M_reckoned 79 = .ok (.getfield 19, 3) := by decide +kernel
theorem d_M_reckoned_82 : decode b_M_reckoned 82 = .ok (.iload_n 1, 1) := by decide +kernel
theorem d_M_reckoned_83 : decode b_M_reckoned 83 = .ok (.iaload, 1) := by decide +kernel
theorem d_M_reckoned_84 : decode b_M_reckoned 84 = .ok (.goto 4, 3) := by decide +kernel
theorem d_M_reckoned_87 : decode b_M_reckoned 87 = .ok (.iconst 0, 1) := by decide +kernel
theorem d_M_reckoned_88 : decode b_M_reckoned 88 = .ok (.invokevirtual 107, 3) := by decide +kernel
theorem d_M_reckoned_91 : decode b_M_reckoned 91 = .ok (.istore 5, 2) := by decide +kernel
theorem d_M_reckoned_93 : decode b_M_reckoned 93 = .ok (.lload 7, 2) := by decide +kernel
theorem d_M_reckoned_95 : decode b_M_reckoned 95 = .ok (.iload 10, 2) := by decide +kernel
theorem d_M_reckoned_97 : decode b_M_reckoned 97 = .ok (.ifCond .eq 25, 3) := by decide +kernel
theorem d_M_reckoned_100 : decode b_M_reckoned 100 = .ok (.aload_n 0, 1) := by decide +kernel
theorem d_M_reckoned_101 : decode b_M_reckoned 101 = .ok (.getfield 19, 3) := by decide +kernel
theorem d_M_reckoned_104 : decode b_M_reckoned 104 = .ok (.iload_n 1, 1) := by decide +kernel
theorem d_M_reckoned_105 : decode b_M_reckoned 105 = .ok (.iaload, 1) := by decide +kernel
theorem d_M_reckoned_106 : decode b_M_reckoned 106 = .ok (.i2l, 1) := by decide +kernel
theorem d_M_reckoned_107 : decode b_M_reckoned 107 = .ok (.aload_n 0, 1) := by decide +kernel
theorem d_M_reckoned_108 : decode b_M_reckoned 108 = .ok (.getfield 49, 3) := by decide +kernel
theorem d_M_reckoned_111 : decode b_M_reckoned 111 = .ok (.iload 9, 2) := by decide +kernel
theorem d_M_reckoned_113 : decode b_M_reckoned 113 = .ok (.bipush 60, 2) := by decide +kernel
theorem d_M_reckoned_115 : decode b_M_reckoned 115 = .ok (.idiv, 1) := by decide +kernel
theorem d_M_reckoned_116 : decode b_M_reckoned 116 = .ok (.iaload, 1) := by decide +kernel
theorem d_M_reckoned_117 : decode b_M_reckoned 117 = .ok (.i2l, 1) := by decide +kernel
theorem d_M_reckoned_118 : decode b_M_reckoned 118 = .ok (.lmul, 1) := by decide +kernel
theorem d_M_reckoned_119 : decode b_M_reckoned 119 = .ok (.goto 4, 3) := by decide +kernel
theorem d_M_reckoned_122 : decode b_M_reckoned 122 = .ok (.lconst 0, 1) := by decide +kernel
theorem d_M_reckoned_123 : decode b_M_reckoned 123 = .ok (.ladd, 1) := by decide +kernel
theorem d_M_reckoned_124 : decode b_M_reckoned 124 = .ok (.lstore 7, 2) := by decide +kernel
theorem d_M_reckoned_126 : decode b_M_reckoned 126 = .ok (.iinc 9 1, 3) := by decide +kernel
theorem d_M_reckoned_129 : decode b_M_reckoned 129 = .ok (.goto (-103), 3) := by decide +kernel
theorem d_M_reckoned_132 : decode b_M_reckoned 132 = .ok (.iload 5, 2) := by decide +kernel
theorem d_M_reckoned_134 : decode b_M_reckoned 134 = .ok (.aload_n 0, 1) := by decide +kernel
theorem d_M_reckoned_135 : decode b_M_reckoned 135 = .ok (.getfield 28, 3) := by decide +kernel
theorem d_M_reckoned_138 : decode b_M_reckoned 138 = .ok (.iload_n 1, 1) := by decide +kernel
theorem d_M_reckoned_139 : decode b_M_reckoned 139 = .ok (.iaload, 1) := by decide +kernel
theorem d_M_reckoned_140 : decode b_M_reckoned 140 = .ok (.if_icmp .lt 8, 3) := by decide +kernel
theorem d_M_reckoned_143 : decode b_M_reckoned 143 = .ok (.lload 7, 2) := by decide +kernel
theorem d_M_reckoned_145 : decode b_M_reckoned 145 = .ok (.goto 6, 3) := by decide +kernel
theorem d_M_reckoned_148 : decode b_M_reckoned 148 = .ok (.ldc2_w 134, 3) := by decide +kernel
theorem d_M_reckoned_151 : decode b_M_reckoned 151 = .ok (.lreturn, 1) := by decide +kernel
theorem d_M_cheapest_0 : decode b_M_cheapest 0 = .ok (.aload_n 0, 1) := by decide +kernel
theorem d_M_cheapest_1 : decode b_M_cheapest 1 = .ok (.iconst 0, 1) := by decide +kernel
theorem d_M_cheapest_2 : decode b_M_cheapest 2 = .ok (.putfield 77, 3) := by decide +kernel
theorem d_M_cheapest_5 : decode b_M_cheapest 5 = .ok (.aload_n 0, 1) := by decide +kernel
theorem d_M_cheapest_6 : decode b_M_cheapest 6 = .ok (.aload_n 0, 1) := by decide +kernel
theorem d_M_cheapest_7 : decode b_M_cheapest 7 = .ok (.iload_n 1, 1) := by decide +kernel
theorem d_M_cheapest_8 : decode b_M_cheapest 8 = .ok (.iload_n 2, 1) := by decide +kernel
theorem d_M_cheapest_9 : decode b_M_cheapest 9 = .ok (.iload_n 3, 1) := by decide +kernel
theorem d_M_cheapest_10 : decode b_M_cheapest 10 = .ok (.invokevirtual 136, 3) := by decide +kernel
theorem d_M_cheapest_13 : decode b_M_cheapest 13 = .ok (.ifCond .ne 7, 3) := by decide +kernel
theorem d_M_cheapest_16 : decode b_M_cheapest 16 = .ok (.iconst 1, 1) := by decide +kernel
theorem d_M_cheapest_17 : decode b_M_cheapest 17 = .ok (.goto 4, 3) := by decide +kernel
theorem d_M_cheapest_20 : decode b_M_cheapest 20 = .ok (.iconst 0, 1) := by decide +kernel
theorem d_M_cheapest_21 : decode b_M_cheapest 21 = .ok (.iconst 1, 1) := by decide +kernel
theorem d_M_cheapest_22 : decode b_M_cheapest 22 = .ok (.invokevirtual 87, 3) := by decide +kernel
theorem d_M_cheapest_25 : decode b_M_cheapest 25 = .ok (.ifCond .ne 26, 3) := by decide +kernel
theorem d_M_cheapest_28 : decode b_M_cheapest 28 = .ok (.aload_n 0, 1) := by decide +kernel
theorem d_M_cheapest_29 : decode b_M_cheapest 29 = .ok (.aload_n 0, 1) := by decide +kernel
theorem d_M_cheapest_30 : decode b_M_cheapest 30 = .ok (.getfield 25, 3) := by decide +kernel
theorem d_M_cheapest_33 : decode b_M_cheapest 33 = .ok (.iload_n 1, 1) := by decide +kernel
theorem d_M_cheapest_34 : decode b_M_cheapest 34 = .ok (.iaload, 1) := by decide +kernel
theorem d_M_cheapest_35 : decode b_M_cheapest 35 = .ok (.iconst (-1), 1) := by decide +kernel
theorem d_M_cheapest_36 : decode b_M_cheapest 36 = .ok (.if_icmp .ne 7, 3) := by decide +kernel
theorem d_M_cheapest_39 : decode b_M_cheapest 39 = .ok (.iconst 1, 1) := by decide +kernel
theorem d_M_cheapest_40 : decode b_M_cheapest 40 = .ok (.goto 4, 3) := by decide +kernel
theorem d_M_cheapest_43 : decode b_M_cheapest 43 = .ok (.iconst 0, 1) := by decide +kernel
theorem d_M_cheapest_44 : decode b_M_cheapest 44 = .ok (.iconst 2, 1) := by decide +kernel
theorem d_M_cheapest_45 : decode b_M_cheapest 45 = .ok (.invokevirtual 87, 3) := by decide +kernel
theorem d_M_cheapest_48 : decode b_M_cheapest 48 = .ok (.ifCond .eq 5, 3) := by decide +kernel
theorem d_M_cheapest_51 : decode b_M_cheapest 51 = .ok (.iconst 0, 1) := by decide +kernel
theorem d_M_cheapest_52 : decode b_M_cheapest 52 = .ok (.ireturn, 1) := by decide +kernel
theorem d_M_cheapest_53 : decode b_M_cheapest 53 = .ok (.aload_n 0, 1) := by decide +kernel
theorem d_M_cheapest_54 : decode b_M_cheapest 54 = .ok (.invokevirtual 114, 3) := by decide +kernel
theorem d_M_cheapest_57 : decode b_M_cheapest 57 = .ok (.iconst (-1), 1) := by decide +kernel
theorem d_M_cheapest_58 : decode b_M_cheapest 58 = .ok (.istore 4, 2) := by decide +kernel
theorem d_M_cheapest_60 : decode b_M_cheapest 60 = .ok (.lconst 0, 1) := by decide +kernel
theorem d_M_cheapest_61 : decode b_M_cheapest 61 = .ok (.lstore 5, 2) := by decide +kernel
theorem d_M_cheapest_63 : decode b_M_cheapest 63 = .ok (.iconst 0, 1) := by decide +kernel
theorem d_M_cheapest_64 : decode b_M_cheapest 64 = .ok (.istore 7, 2) := by decide +kernel
theorem d_M_cheapest_66 : decode b_M_cheapest 66 = .ok (.iload 7, 2) := by decide +kernel
theorem d_M_cheapest_68 : decode b_M_cheapest 68 = .ok (.iconst 1, 1) := by decide +kernel
theorem d_M_cheapest_69 : decode b_M_cheapest 69 = .ok (.iload_n 2, 1) := by decide +kernel
theorem d_M_cheapest_70 : decode b_M_cheapest 70 = .ok (.ishl, 1) := by decide +kernel
theorem d_M_cheapest_71 : decode b_M_cheapest 71 = .ok (.if_icmp .ge 49, 3) := by decide +kernel
theorem d_M_cheapest_74 : decode b_M_cheapest 74 = .ok (.aload_n 0, 1) := by decide +kernel
theorem d_M_cheapest_75 : decode b_M_cheapest 75 = .ok (.iload_n 1, 1) := by decide +kernel
theorem d_M_cheapest_76 : decode b_M_cheapest 76 = .ok (.iload_n 2, 1) := by decide +kernel
theorem d_M_cheapest_77 : decode b_M_cheapest 77 = .ok (.iload_n 3, 1) := by decide +kernel
theorem d_M_cheapest_78 : decode b_M_cheapest 78 = .ok (.iload 7, 2) := by decide +kernel
theorem d_M_cheapest_80 : decode b_M_cheapest 80 = .ok (.invokevirtual 139, 3) := by decide +kernel
theorem d_M_cheapest_83 : decode b_M_cheapest 83 = .ok (.lstore 8, 2) := by decide +kernel
theorem d_M_cheapest_85 : decode b_M_cheapest 85 = .ok (.lload 8, 2) := by decide +kernel
theorem d_M_cheapest_87 : decode b_M_cheapest 87 = .ok (.lconst 0, 1) := by decide +kernel
theorem d_M_cheapest_88 : decode b_M_cheapest 88 = .ok (.lcmp, 1) := by decide +kernel
theorem d_M_cheapest_89 : decode b_M_cheapest 89 = .ok (.ifCond .lt 25, 3) := by decide +kernel
theorem d_M_cheapest_92 : decode b_M_cheapest 92 = .ok (.iload 4, 2) := by decide +kernel
theorem d_M_cheapest_94 : decode b_M_cheapest 94 = .ok (.iconst (-1), 1) := by decide +kernel
theorem d_M_cheapest_95 : decode b_M_cheapest 95 = .ok (.if_icmp .eq 11, 3) := by decide +kernel
theorem d_M_cheapest_98 : decode b_M_cheapest 98 = .ok (.lload 8, 2) := by decide +kernel
theorem d_M_cheapest_100 : decode b_M_cheapest 100 = .ok (.lload 5, 2) := by decide +kernel
theorem d_M_cheapest_102 : decode b_M_cheapest 102 = .ok (.lcmp, 1) := by decide +kernel
theorem d_M_cheapest_103 : decode b_M_cheapest 103 = .ok (.ifCond .ge 11, 3) := by decide +kernel
theorem d_M_cheapest_106 : decode b_M_cheapest 106 = .ok (.iload 7, 2) := by decide +kernel
theorem d_M_cheapest_108 : decode b_M_cheapest 108 = .ok (.istore 4, 2) := by decide +kernel
theorem d_M_cheapest_110 : decode b_M_cheapest 110 = .ok (.lload 8, 2) := by decide +kernel
theorem d_M_cheapest_112 : decode b_M_cheapest 112 = .ok (.lstore 5, 2) := by decide +kernel
theorem d_M_cheapest_114 : decode b_M_cheapest 114 = .ok (.iinc 7 1, 3) := by decide +kernel
theorem d_M_cheapest_117 : decode b_M_cheapest 117 = .ok (.goto (-51), 3) := by decide +kernel
theorem d_M_cheapest_120 : decode b_M_cheapest 120 = .ok (.iload 4, 2) := by decide +kernel
theorem d_M_cheapest_122 : decode b_M_cheapest 122 = .ok (.ireturn, 1) := by decide +kernel
theorem d_M_costs_0 : decode b_M_costs 0 = .ok (.aload_n 0, 1) := by decide +kernel
theorem d_M_costs_1 : decode b_M_costs 1 = .ok (.iconst 0, 1) := by decide +kernel
theorem d_M_costs_2 : decode b_M_costs 2 = .ok (.putfield 77, 3) := by decide +kernel
theorem d_M_costs_5 : decode b_M_costs 5 = .ok (.aload_n 0, 1) := by decide +kernel
theorem d_M_costs_6 : decode b_M_costs 6 = .ok (.aload_n 0, 1) := by decide +kernel
theorem d_M_costs_7 : decode b_M_costs 7 = .ok (.iload_n 1, 1) := by decide +kernel
theorem d_M_costs_8 : decode b_M_costs 8 = .ok (.iload_n 2, 1) := by decide +kernel
theorem d_M_costs_9 : decode b_M_costs 9 = .ok (.iload_n 3, 1) := by decide +kernel
theorem d_M_costs_10 : decode b_M_costs 10 = .ok (.invokevirtual 136, 3) := by decide +kernel
theorem d_M_costs_13 : decode b_M_costs 13 = .ok (.ifCond .eq 15, 3) := by decide +kernel
theorem d_M_costs_16 : decode b_M_costs 16 = .ok (.iload 4, 2) := by decide +kernel
theorem d_M_costs_18 : decode b_M_costs 18 = .ok (.ifCond .lt 10, 3) := by decide +kernel
theorem d_M_costs_21 : decode b_M_costs 21 = .ok (.iload 4, 2) := by decide +kernel
theorem d_M_costs_23 : decode b_M_costs 23 = .ok (.iload_n 2, 1) := by decide +kernel
theorem d_M_costs_24 : decode b_M_costs 24 = .ok (.ishr, 1) := by decide +kernel
theorem d_M_costs_25 : decode b_M_costs 25 = .ok (.ifCond .eq 7, 3) := by decide +kernel
theorem d_M_costs_28 : decode b_M_costs 28 = .ok (.iconst 1, 1) := by decide +kernel
theorem d_M_costs_29 : decode b_M_costs 29 = .ok (.goto 4, 3) := by decide +kernel
theorem d_M_costs_32 : decode b_M_costs 32 = .ok (.iconst 0, 1) := by decide +kernel
theorem d_M_costs_33 : decode b_M_costs 33 = .ok (.iconst 1, 1) := by decide +kernel
theorem d_M_costs_34 : decode b_M_costs 34 = .ok (.invokevirtual 87, 3) := by decide +kernel
theorem d_M_costs_37 : decode b_M_costs 37 = .ok (.ifCond .ne 26, 3) := by decide +kernel
theorem d_M_costs_40 : decode b_M_costs 40 = .ok (.aload_n 0, 1) := by decide +kernel
theorem d_M_costs_41 : decode b_M_costs 41 = .ok (.aload_n 0, 1) := by decide +kernel
theorem d_M_costs_42 : decode b_M_costs 42 = .ok (.getfield 25, 3) := by decide +kernel
theorem d_M_costs_45 : decode b_M_costs 45 = .ok (.iload_n 1, 1) := by decide +kernel
theorem d_M_costs_46 : decode b_M_costs 46 = .ok (.iaload, 1) := by decide +kernel
theorem d_M_costs_47 : decode b_M_costs 47 = .ok (.iconst (-1), 1) := by decide +kernel
theorem d_M_costs_48 : decode b_M_costs 48 = .ok (.if_icmp .ne 7, 3) := by decide +kernel
theorem d_M_costs_51 : decode b_M_costs 51 = .ok (.iconst 1, 1) := by decide +kernel
theorem d_M_costs_52 : decode b_M_costs 52 = .ok (.goto 4, 3) := by decide +kernel
theorem d_M_costs_55 : decode b_M_costs 55 = .ok (.iconst 0, 1) := by decide +kernel
theorem d_M_costs_56 : decode b_M_costs 56 = .ok (.iconst 2, 1) := by decide +kernel
theorem d_M_costs_57 : decode b_M_costs 57 = .ok (.invokevirtual 87, 3) := by decide +kernel
theorem d_M_costs_60 : decode b_M_costs 60 = .ok (.ifCond .eq 5, 3) := by decide +kernel
theorem d_M_costs_63 : decode b_M_costs 63 = .ok (.lconst 0, 1) := by decide +kernel
theorem d_M_costs_64 : decode b_M_costs 64 = .ok (.lreturn, 1) := by decide +kernel
theorem d_M_costs_65 : decode b_M_costs 65 = .ok (.aload_n 0, 1) := by decide +kernel
theorem d_M_costs_66 : decode b_M_costs 66 = .ok (.invokevirtual 114, 3) := by decide +kernel
theorem d_M_costs_69 : decode b_M_costs 69 = .ok (.aload_n 0, 1) := by decide +kernel
theorem d_M_costs_70 : decode b_M_costs 70 = .ok (.iload_n 1, 1) := by decide +kernel
theorem d_M_costs_71 : decode b_M_costs 71 = .ok (.iload_n 2, 1) := by decide +kernel
theorem d_M_costs_72 : decode b_M_costs 72 = .ok (.iload_n 3, 1) := by decide +kernel
theorem d_M_costs_73 : decode b_M_costs 73 = .ok (.iload 4, 2) := by decide +kernel
theorem d_M_costs_75 : decode b_M_costs 75 = .ok (.invokevirtual 139, 3) := by decide +kernel
theorem d_M_costs_78 : decode b_M_costs 78 = .ok (.lreturn, 1) := by decide +kernel
theorem d_E_init_0 : decode b_E_init 0 = .ok (.aload_n 0, 1) := by decide +kernel
theorem d_E_init_1 : decode b_E_init 1 = .ok (.invokespecial 1, 3) := by decide +kernel
theorem d_E_init_4 : decode b_E_init 4 = .ok (.aload_n 0, 1) := by decide +kernel
theorem d_E_init_5 : decode b_E_init 5 = .ok (.lconst 0, 1) := by decide +kernel
theorem d_E_init_6 : decode b_E_init 6 = .ok (.putfield 7, 3) := by decide +kernel
theorem d_E_init_9 : decode b_E_init 9 = .ok (.aload_n 0, 1) := by decide +kernel
theorem d_E_init_10 : decode b_E_init 10 = .ok (.lconst 1, 1) := by decide +kernel
theorem d_E_init_11 : decode b_E_init 11 = .ok (.putfield 13, 3) := by decide +kernel
theorem d_E_init_14 : decode b_E_init 14 = .ok (.return_, 1) := by decide +kernel
theorem d_E_learn_0 : decode b_E_learn 0 = .ok (.aload_n 0, 1) := by decide +kernel
theorem d_E_learn_1 : decode b_E_learn 1 = .ok (.getfield 7, 3) := by decide +kernel
theorem d_E_learn_4 : decode b_E_learn 4 = .ok (.iload_n 3, 1) := by decide +kernel
theorem d_E_learn_5 : decode b_E_learn 5 = .ok (.iload_n 2, 1) := by decide +kernel
theorem d_E_learn_6 : decode b_E_learn 6 = .ok (.isub, 1) := by decide +kernel
theorem d_E_learn_7 : decode b_E_learn 7 = .ok (.i2l, 1) := by decide +kernel
theorem d_E_learn_8 : decode b_E_learn 8 = .ok (.lmul, 1) := by decide +kernel
theorem d_E_learn_9 : decode b_E_learn 9 = .ok (.lstore 4, 2) := by decide +kernel
theorem d_E_learn_11 : decode b_E_learn 11 = .ok (.iload_n 1, 1) := by decide +kernel
theorem d_E_learn_12 : decode b_E_learn 12 = .ok (.i2l, 1) := by decide +kernel
theorem d_E_learn_13 : decode b_E_learn 13 = .ok (.aload_n 0, 1) := by decide +kernel
theorem d_E_learn_14 : decode b_E_learn 14 = .ok (.getfield 13, 3) := by decide +kernel
theorem d_E_learn_17 : decode b_E_learn 17 = .ok (.lmul, 1) := by decide +kernel
theorem d_E_learn_18 : decode b_E_learn 18 = .ok (.iload_n 2, 1) := by decide +kernel
theorem d_E_learn_19 : decode b_E_learn 19 = .ok (.i2l, 1) := by decide +kernel
theorem d_E_learn_20 : decode b_E_learn 20 = .ok (.lmul, 1) := by decide +kernel
theorem d_E_learn_21 : decode b_E_learn 21 = .ok (.lstore 6, 2) := by decide +kernel
theorem d_E_learn_23 : decode b_E_learn 23 = .ok (.aload_n 0, 1) := by decide +kernel
theorem d_E_learn_24 : decode b_E_learn 24 = .ok (.lload 4, 2) := by decide +kernel
theorem d_E_learn_26 : decode b_E_learn 26 = .ok (.lload 6, 2) := by decide +kernel
theorem d_E_learn_28 : decode b_E_learn 28 = .ok (.ladd, 1) := by decide +kernel
theorem d_E_learn_29 : decode b_E_learn 29 = .ok (.aload_n 0, 1) := by decide +kernel
theorem d_E_learn_30 : decode b_E_learn 30 = .ok (.getfield 13, 3) := by decide +kernel
theorem d_E_learn_33 : decode b_E_learn 33 = .ok (.iload_n 3, 1) := by decide +kernel
theorem d_E_learn_34 : decode b_E_learn 34 = .ok (.i2l, 1) := by decide +kernel
theorem d_E_learn_35 : decode b_E_learn 35 = .ok (.lmul, 1) := by decide +kernel
theorem d_E_learn_36 : decode b_E_learn 36 = .ok (.invokevirtual 16, 3) := by decide +kernel
theorem d_E_learn_39 : decode b_E_learn 39 = .ok (.aload_n 0, 1) := by decide +kernel
theorem d_E_learn_40 : decode b_E_learn 40 = .ok (.getfield 13, 3) := by decide +kernel
theorem d_E_learn_43 : decode b_E_learn 43 = .ok (.ldc2_w 20, 3) := by decide +kernel
theorem d_E_learn_46 : decode b_E_learn 46 = .ok (.lcmp, 1) := by decide +kernel
theorem d_E_learn_47 : decode b_E_learn 47 = .ok (.ifCond .le 14, 3) := by decide +kernel
theorem d_E_learn_50 : decode b_E_learn 50 = .ok (.aload_n 0, 1) := by decide +kernel
theorem d_E_learn_51 : decode b_E_learn 51 = .ok (.aload_n 0, 1) := by decide +kernel
theorem d_E_learn_52 : decode b_E_learn 52 = .ok (.invokevirtual 22, 3) := by decide +kernel
theorem d_E_learn_55 : decode b_E_learn 55 = .ok (.ldc2_w 26, 3) := by decide +kernel
theorem d_E_learn_58 : decode b_E_learn 58 = .ok (.invokevirtual 16, 3) := by decide +kernel
theorem d_E_learn_61 : decode b_E_learn 61 = .ok (.return_, 1) := by decide +kernel
theorem d_E_millionths_0 : decode b_E_millionths 0 = .ok (.aload_n 0, 1) := by decide +kernel
theorem d_E_millionths_1 : decode b_E_millionths 1 = .ok (.getfield 7, 3) := by decide +kernel
theorem d_E_millionths_4 : decode b_E_millionths 4 = .ok (.aload_n 0, 1) := by decide +kernel
theorem d_E_millionths_5 : decode b_E_millionths 5 = .ok (.getfield 13, 3) := by decide +kernel
theorem d_E_millionths_8 : decode b_E_millionths 8 = .ok (.ldiv, 1) := by decide +kernel
theorem d_E_millionths_9 : decode b_E_millionths 9 = .ok (.ldc2_w 26, 3) := by decide +kernel
theorem d_E_millionths_12 : decode b_E_millionths 12 = .ok (.lmul, 1) := by decide +kernel
theorem d_E_millionths_13 : decode b_E_millionths 13 = .ok (.aload_n 0, 1) := by decide +kernel
theorem d_E_millionths_14 : decode b_E_millionths 14 = .ok (.getfield 7, 3) := by decide +kernel
theorem d_E_millionths_17 : decode b_E_millionths 17 = .ok (.aload_n 0, 1) := by decide +kernel
theorem d_E_millionths_18 : decode b_E_millionths 18 = .ok (.getfield 13, 3) := by decide +kernel
theorem d_E_millionths_21 : decode b_E_millionths 21 = .ok (.lrem, 1) := by decide +kernel
theorem d_E_millionths_22 : decode b_E_millionths 22 = .ok (.ldc2_w 26, 3) := by decide +kernel
theorem d_E_millionths_25 : decode b_E_millionths 25 = .ok (.lmul, 1) := by decide +kernel
theorem d_E_millionths_26 : decode b_E_millionths 26 = .ok (.aload_n 0, 1) := by decide +kernel
theorem d_E_millionths_27 : decode b_E_millionths 27 = .ok (.getfield 13, 3) := by decide +kernel
theorem d_E_millionths_30 : decode b_E_millionths 30 = .ok (.ldiv, 1) := by decide +kernel
theorem d_E_millionths_31 : decode b_E_millionths 31 = .ok (.ladd, 1) := by decide +kernel
theorem d_E_millionths_32 : decode b_E_millionths 32 = .ok (.lreturn, 1) := by decide +kernel
theorem d_E_keepInLowestTerms_0 : decode b_E_keepInLowestTerms 0 = .ok (.lload_n 1, 1) := by decide +kernel
theorem d_E_keepInLowestTerms_1 : decode b_E_keepInLowestTerms 1 = .ok (.invokestatic 28, 3) := by decide +kernel
theorem d_E_keepInLowestTerms_4 : decode b_E_keepInLowestTerms 4 = .ok (.lload_n 3, 1) := by decide +kernel
theorem d_E_keepInLowestTerms_5 : decode b_E_keepInLowestTerms 5 = .ok (.invokestatic 34, 3) := by decide +kernel
theorem d_E_keepInLowestTerms_8 : decode b_E_keepInLowestTerms 8 = .ok (.lstore 5, 2) := by decide +kernel
theorem d_E_keepInLowestTerms_10 : decode b_E_keepInLowestTerms 10 = .ok (.aload_n 0, 1) := by decide +kernel
theorem d_E_keepInLowestTerms_11 : decode b_E_keepInLowestTerms 11 = .ok (.lload_n 1, 1) := by decide +kernel
theorem d_E_keepInLowestTerms_12 : decode b_E_keepInLowestTerms 12 = .ok (.lload 5, 2) := by decide +kernel
theorem d_E_keepInLowestTerms_14 : decode b_E_keepInLowestTerms 14 = .ok (.ldiv, 1) := by decide +kernel
theorem d_E_keepInLowestTerms_15 : decode b_E_keepInLowestTerms 15 = .ok (.putfield 7, 3) := by decide +kernel
theorem d_E_keepInLowestTerms_18 : decode b_E_keepInLowestTerms 18 = .ok (.aload_n 0, 1) := by decide +kernel
theorem d_E_keepInLowestTerms_19 : decode b_E_keepInLowestTerms 19 = .ok (.lload_n 3, 1) := by decide +kernel
theorem d_E_keepInLowestTerms_20 : decode b_E_keepInLowestTerms 20 = .ok (.lload 5, 2) := by decide +kernel
theorem d_E_keepInLowestTerms_22 : decode b_E_keepInLowestTerms 22 = .ok (.ldiv, 1) := by decide +kernel
theorem d_E_keepInLowestTerms_23 : decode b_E_keepInLowestTerms 23 = .ok (.putfield 13, 3) := by decide +kernel
theorem d_E_keepInLowestTerms_26 : decode b_E_keepInLowestTerms 26 = .ok (.return_, 1) := by decide +kernel
theorem d_E_commonDivisor_0 : decode b_E_commonDivisor 0 = .ok (.lload_n 2, 1) := by decide +kernel
theorem d_E_commonDivisor_1 : decode b_E_commonDivisor 1 = .ok (.lstore 4, 2) := by decide +kernel
theorem d_E_commonDivisor_3 : decode b_E_commonDivisor 3 = .ok (.lload_n 0, 1) := by decide +kernel
theorem d_E_commonDivisor_4 : decode b_E_commonDivisor 4 = .ok (.lstore 6, 2) := by decide +kernel
theorem d_E_commonDivisor_6 : decode b_E_commonDivisor 6 = .ok (.iconst 0, 1) := by decide +kernel
theorem d_E_commonDivisor_7 : decode b_E_commonDivisor 7 = .ok (.istore 8, 2) := by decide +kernel
theorem d_E_commonDivisor_9 : decode b_E_commonDivisor 9 = .ok (.iload 8, 2) := by decide +kernel
theorem d_E_commonDivisor_11 : decode b_E_commonDivisor 11 = .ok (.bipush 100, 2) := by decide +kernel
theorem d_E_commonDivisor_13 : decode b_E_commonDivisor 13 = .ok (.if_icmp .ge 31, 3) := by decide +kernel
theorem d_E_commonDivisor_16 : decode b_E_commonDivisor 16 = .ok (.lload 6, 2) := by decide +kernel
theorem d_E_commonDivisor_18 : decode b_E_commonDivisor 18 = .ok (.lconst 0, 1) := by decide +kernel
theorem d_E_commonDivisor_19 : decode b_E_commonDivisor 19 = .ok (.lcmp, 1) := by decide +kernel
theorem d_E_commonDivisor_20 : decode b_E_commonDivisor 20 = .ok (.ifCond .eq 24, 3) := by decide +kernel
theorem d_E_commonDivisor_23 : decode b_E_commonDivisor 23 = .ok (.lload 4, 2) := by decide +kernel
theorem d_E_commonDivisor_25 : decode b_E_commonDivisor 25 = .ok (.lload 6, 2) := by decide +kernel
theorem d_E_commonDivisor_27 : decode b_E_commonDivisor 27 = .ok (.lrem, 1) := by decide +kernel
theorem d_E_commonDivisor_28 : decode b_E_commonDivisor 28 = .ok (.lstore 9, 2) := by decide +kernel
theorem d_E_commonDivisor_30 : decode b_E_commonDivisor 30 = .ok (.lload 6, 2) := by decide +kernel
theorem d_E_commonDivisor_32 : decode b_E_commonDivisor 32 = .ok (.lstore 4, 2) := by decide +kernel
theorem d_E_commonDivisor_34 : decode b_E_commonDivisor 34 = .ok (.lload 9, 2) := by decide +kernel
theorem d_E_commonDivisor_36 : decode b_E_commonDivisor 36 = .ok (.lstore 6, 2) := by decide +kernel
theorem d_E_commonDivisor_38 : decode b_E_commonDivisor 38 = .ok (.iinc 8 1, 3) := by decide +kernel
theorem d_E_commonDivisor_41 : decode b_E_commonDivisor 41 = .ok (.goto (-32), 3) := by decide +kernel
theorem d_E_commonDivisor_44 : decode b_E_commonDivisor 44 = .ok (.lload 4, 2) := by decide +kernel
theorem d_E_commonDivisor_46 : decode b_E_commonDivisor 46 = .ok (.lreturn, 1) := by decide +kernel
theorem d_E_wholeMinutes_0 : decode b_E_wholeMinutes 0 = .ok (.aload_n 0, 1) := by decide +kernel
theorem d_E_wholeMinutes_1 : decode b_E_wholeMinutes 1 = .ok (.getfield 7, 3) := by decide +kernel
theorem d_E_wholeMinutes_4 : decode b_E_wholeMinutes 4 = .ok (.aload_n 0, 1) := by decide +kernel
theorem d_E_wholeMinutes_5 : decode b_E_wholeMinutes 5 = .ok (.getfield 13, 3) := by decide +kernel
theorem d_E_wholeMinutes_8 : decode b_E_wholeMinutes 8 = .ok (.ldiv, 1) := by decide +kernel
theorem d_E_wholeMinutes_9 : decode b_E_wholeMinutes 9 = .ok (.l2i, 1) := by decide +kernel
theorem d_E_wholeMinutes_10 : decode b_E_wholeMinutes 10 = .ok (.ireturn, 1) := by decide +kernel
theorem d_Z_init_0 : decode b_Z_init 0 = .ok (.aload_n 0, 1) := by decide +kernel
theorem d_Z_init_1 : decode b_Z_init 1 = .ok (.invokespecial 3, 3) := by decide +kernel
theorem d_Z_init_4 : decode b_Z_init 4 = .ok (.aload_n 0, 1) := by decide +kernel
theorem d_Z_init_5 : decode b_Z_init 5 = .ok (.iconst 0, 1) := by decide +kernel
theorem d_Z_init_6 : decode b_Z_init 6 = .ok (.putfield 9, 3) := by decide +kernel
theorem d_Z_init_9 : decode b_Z_init 9 = .ok (.aload_n 0, 1) := by decide +kernel
theorem d_Z_init_10 : decode b_Z_init 10 = .ok (.sipush 1000, 3) := by decide +kernel
theorem d_Z_init_13 : decode b_Z_init 13 = .ok (.putfield 15, 3) := by decide +kernel
theorem d_Z_init_16 : decode b_Z_init 16 = .ok (.aload_n 0, 1) := by decide +kernel
theorem d_Z_init_17 : decode b_Z_init 17 = .ok (.iconst 0, 1) := by decide +kernel
theorem d_Z_init_18 : decode b_Z_init 18 = .ok (.putfield 18, 3) := by decide +kernel
theorem d_Z_init_21 : decode b_Z_init 21 = .ok (.aload_n 0, 1) := by decide +kernel
theorem d_Z_init_22 : decode b_Z_init 22 = .ok (.iconst (-1), 1) := by decide +kernel
theorem d_Z_init_23 : decode b_Z_init 23 = .ok (.putfield 21, 3) := by decide +kernel
theorem d_Z_init_26 : decode b_Z_init 26 = .ok (.aload_n 0, 1) := by decide +kernel
theorem d_Z_init_27 : decode b_Z_init 27 = .ok (.iconst 0, 1) := by decide +kernel
theorem d_Z_init_28 : decode b_Z_init 28 = .ok (.putfield 24, 3) := by decide +kernel
theorem d_Z_init_31 : decode b_Z_init 31 = .ok (.aload_n 0, 1) := by decide +kernel
theorem d_Z_init_32 : decode b_Z_init 32 = .ok (.new 27, 3) := by decide +kernel
theorem d_Z_init_35 : decode b_Z_init 35 = .ok (.dup, 1) := by decide +kernel
theorem d_Z_init_36 : decode b_Z_init 36 = .ok (.invokespecial 29, 3) := by decide +kernel
theorem d_Z_init_39 : decode b_Z_init 39 = .ok (.putfield 30, 3) := by decide +kernel
theorem d_Z_init_42 : decode b_Z_init 42 = .ok (.aload_n 0, 1) := by decide +kernel
theorem d_Z_init_43 : decode b_Z_init 43 = .ok (.iconst (-1), 1) := by decide +kernel
theorem d_Z_init_44 : decode b_Z_init 44 = .ok (.putfield 34, 3) := by decide +kernel
theorem d_Z_init_47 : decode b_Z_init 47 = .ok (.aload_n 0, 1) := by decide +kernel
theorem d_Z_init_48 : decode b_Z_init 48 = .ok (.sipush 1441, 3) := by decide +kernel
theorem d_Z_init_51 : decode b_Z_init 51 = .ok (.newarray .int, 2) := by decide +kernel
theorem d_Z_init_53 : decode b_Z_init 53 = .ok (.putfield 37, 3) := by decide +kernel
theorem d_Z_init_56 : decode b_Z_init 56 = .ok (.aload_n 0, 1) := by decide +kernel
theorem d_Z_init_57 : decode b_Z_init 57 = .ok (.iload_n 1, 1) := by decide +kernel
theorem d_Z_init_58 : decode b_Z_init 58 = .ok (.putfield 41, 3) := by decide +kernel
theorem d_Z_init_61 : decode b_Z_init 61 = .ok (.aload_n 0, 1) := by decide +kernel
theorem d_Z_init_62 : decode b_Z_init 62 = .ok (.iload_n 2, 1) := by decide +kernel
theorem d_Z_init_63 : decode b_Z_init 63 = .ok (.putfield 44, 3) := by decide +kernel
theorem d_Z_init_66 : decode b_Z_init 66 = .ok (.return_, 1) := by decide +kernel
theorem d_Z_wantsWarmth_0 : decode b_Z_wantsWarmth 0 = .ok (.aload_n 0, 1) := by decide +kernel
theorem d_Z_wantsWarmth_1 : decode b_Z_wantsWarmth 1 = .ok (.getfield 21, 3) := by decide +kernel
theorem d_Z_wantsWarmth_4 : decode b_Z_wantsWarmth 4 = .ok (.iconst (-1), 1) := by decide +kernel
theorem d_Z_wantsWarmth_5 : decode b_Z_wantsWarmth 5 = .ok (.if_icmp .eq 7, 3) := by decide +kernel
theorem d_Z_wantsWarmth_8 : decode b_Z_wantsWarmth 8 = .ok (.iconst 1, 1) := by decide +kernel
theorem d_Z_wantsWarmth_9 : decode b_Z_wantsWarmth 9 = .ok (.goto 4, 3) := by decide +kernel
theorem d_Z_wantsWarmth_12 : decode b_Z_wantsWarmth 12 = .ok (.iconst 0, 1) := by decide +kernel
theorem d_Z_wantsWarmth_13 : decode b_Z_wantsWarmth 13 = .ok (.ireturn, 1) := by decide +kernel
theorem d_L_zone_0 : decode b_L_zone 0 = .ok (.aload_n 3, 1) := by decide +kernel
theorem d_L_zone_1 : decode b_L_zone 1 = .ok (.iconst 0, 1) := by decide +kernel
theorem d_L_zone_2 : decode b_L_zone 2 = .ok (.aload_n 0, 1) := by decide +kernel
theorem d_L_zone_3 : decode b_L_zone 3 = .ok (.iload_n 1, 1) := by decide +kernel
theorem d_L_zone_4 : decode b_L_zone 4 = .ok (.iload_n 2, 1) := by decide +kernel
theorem d_L_zone_5 : decode b_L_zone 5 = .ok (.invokevirtual 7, 3) := by decide +kernel
theorem d_L_zone_8 : decode b_L_zone 8 = .ok (.i2l, 1) := by decide +kernel
theorem d_L_zone_9 : decode b_L_zone 9 = .ok (.lastore, 1) := by decide +kernel
theorem d_L_zone_10 : decode b_L_zone 10 = .ok (.goto 11, 3) := by decide +kernel
theorem d_L_zone_13 : decode b_L_zone 13 = .ok (.astore 4, 2) := by decide +kernel
theorem d_L_zone_15 : decode b_L_zone 15 = .ok (.iconst 1, 1) := by decide +kernel
theorem d_L_zone_16 : decode b_L_zone 16 = .ok (.ireturn, 1) := by decide +kernel
theorem d_L_zone_17 : decode b_L_zone 17 = .ok (.astore 4, 2) := by decide +kernel
theorem d_L_zone_19 : decode b_L_zone 19 = .ok (.iconst 2, 1) := by decide +kernel
theorem d_L_zone_20 : decode b_L_zone 20 = .ok (.ireturn, 1) := by decide +kernel
theorem d_L_zone_21 : decode b_L_zone 21 = .ok (.iconst 0, 1) := by decide +kernel
theorem d_L_zone_22 : decode b_L_zone 22 = .ok (.ireturn, 1) := by decide +kernel
theorem d_L_set_0 : decode b_L_set 0 = .ok (.aload 4, 2) := by decide +kernel
theorem d_L_set_2 : decode b_L_set 2 = .ok (.iconst 0, 1) := by decide +kernel
theorem d_L_set_3 : decode b_L_set 3 = .ok (.aload_n 0, 1) := by decide +kernel
theorem d_L_set_4 : decode b_L_set 4 = .ok (.iload_n 1, 1) := by decide +kernel
theorem d_L_set_5 : decode b_L_set 5 = .ok (.iload_n 2, 1) := by decide +kernel
theorem d_L_set_6 : decode b_L_set 6 = .ok (.iload_n 3, 1) := by decide +kernel
theorem d_L_set_7 : decode b_L_set 7 = .ok (.invokevirtual 17, 3) := by decide +kernel
theorem d_L_set_10 : decode b_L_set 10 = .ok (.i2l, 1) := by decide +kernel
theorem d_L_set_11 : decode b_L_set 11 = .ok (.lastore, 1) := by decide +kernel
theorem d_L_set_12 : decode b_L_set 12 = .ok (.goto 7, 3) := by decide +kernel
theorem d_L_set_15 : decode b_L_set 15 = .ok (.astore 5, 2) := by decide +kernel
theorem d_L_set_17 : decode b_L_set 17 = .ok (.iconst 1, 1) := by decide +kernel
theorem d_L_set_18 : decode b_L_set 18 = .ok (.ireturn, 1) := by decide +kernel
theorem d_L_set_19 : decode b_L_set 19 = .ok (.iconst 0, 1) := by decide +kernel
theorem d_L_set_20 : decode b_L_set 20 = .ok (.ireturn, 1) := by decide +kernel
theorem d_L_want_0 : decode b_L_want 0 = .ok (.aload_n 0, 1) := by decide +kernel
theorem d_L_want_1 : decode b_L_want 1 = .ok (.iload_n 1, 1) := by decide +kernel
theorem d_L_want_2 : decode b_L_want 2 = .ok (.iload_n 2, 1) := by decide +kernel
theorem d_L_want_3 : decode b_L_want 3 = .ok (.iload_n 3, 1) := by decide +kernel
theorem d_L_want_4 : decode b_L_want 4 = .ok (.invokevirtual 21, 3) := by decide +kernel
theorem d_L_want_7 : decode b_L_want 7 = .ok (.goto 7, 3) := by decide +kernel
theorem d_L_want_10 : decode b_L_want 10 = .ok (.astore 4, 2) := by decide +kernel
theorem d_L_want_12 : decode b_L_want 12 = .ok (.iconst 1, 1) := by decide +kernel
theorem d_L_want_13 : decode b_L_want 13 = .ok (.ireturn, 1) := by decide +kernel
theorem d_L_want_14 : decode b_L_want 14 = .ok (.iconst 0, 1) := by decide +kernel
theorem d_L_want_15 : decode b_L_want 15 = .ok (.ireturn, 1) := by decide +kernel
theorem d_L_outside_0 : decode b_L_outside 0 = .ok (.aload_n 3, 1) := by decide +kernel
theorem d_L_outside_1 : decode b_L_outside 1 = .ok (.iconst 0, 1) := by decide +kernel
theorem d_L_outside_2 : decode b_L_outside 2 = .ok (.aload_n 0, 1) := by decide +kernel
theorem d_L_outside_3 : decode b_L_outside 3 = .ok (.iload_n 1, 1) := by decide +kernel
theorem d_L_outside_4 : decode b_L_outside 4 = .ok (.iload_n 2, 1) := by decide +kernel
theorem d_L_outside_5 : decode b_L_outside 5 = .ok (.invokevirtual 25, 3) := by decide +kernel
theorem d_L_outside_8 : decode b_L_outside 8 = .ok (.i2l, 1) := by decide +kernel
theorem d_L_outside_9 : decode b_L_outside 9 = .ok (.lastore, 1) := by decide +kernel
theorem d_L_outside_10 : decode b_L_outside 10 = .ok (.goto 11, 3) := by decide +kernel
theorem d_L_outside_13 : decode b_L_outside 13 = .ok (.astore 4, 2) := by decide +kernel
theorem d_L_outside_15 : decode b_L_outside 15 = .ok (.iconst 1, 1) := by decide +kernel
theorem d_L_outside_16 : decode b_L_outside 16 = .ok (.ireturn, 1) := by decide +kernel
theorem d_L_outside_17 : decode b_L_outside 17 = .ok (.astore 4, 2) := by decide +kernel
theorem d_L_outside_19 : decode b_L_outside 19 = .ok (.iconst 2, 1) := by decide +kernel
theorem d_L_outside_20 : decode b_L_outside 20 = .ok (.ireturn, 1) := by decide +kernel
theorem d_L_outside_21 : decode b_L_outside 21 = .ok (.iconst 0, 1) := by decide +kernel
theorem d_L_outside_22 : decode b_L_outside 22 = .ok (.ireturn, 1) := by decide +kernel
theorem d_L_machine_0 : decode b_L_machine 0 = .ok (.aload_n 2, 1) := by decide +kernel
theorem d_L_machine_1 : decode b_L_machine 1 = .ok (.iconst 0, 1) := by decide +kernel
theorem d_L_machine_2 : decode b_L_machine 2 = .ok (.aload_n 0, 1) := by decide +kernel
theorem d_L_machine_3 : decode b_L_machine 3 = .ok (.iload_n 1, 1) := by decide +kernel
theorem d_L_machine_4 : decode b_L_machine 4 = .ok (.invokevirtual 28, 3) := by decide +kernel
theorem d_L_machine_7 : decode b_L_machine 7 = .ok (.i2l, 1) := by decide +kernel
theorem d_L_machine_8 : decode b_L_machine 8 = .ok (.lastore, 1) := by decide +kernel
theorem d_L_machine_9 : decode b_L_machine 9 = .ok (.goto 6, 3) := by decide +kernel
theorem d_L_machine_12 : decode b_L_machine 12 = .ok (.astore_n 3, 1) := by decide +kernel
theorem d_L_machine_13 : decode b_L_machine 13 = .ok (.iconst 1, 1) := by decide +kernel
theorem d_L_machine_14 : decode b_L_machine 14 = .ok (.ireturn, 1) := by decide +kernel
theorem d_L_machine_15 : decode b_L_machine 15 = .ok (.iconst 0, 1) := by decide +kernel
theorem d_L_machine_16 : decode b_L_machine 16 = .ok (.ireturn, 1) := by decide +kernel
theorem d_L_start_0 : decode b_L_start 0 = .ok (.aload_n 2, 1) := by decide +kernel
theorem d_L_start_1 : decode b_L_start 1 = .ok (.iconst 0, 1) := by decide +kernel
theorem d_L_start_2 : decode b_L_start 2 = .ok (.aload_n 0, 1) := by decide +kernel
theorem d_L_start_3 : decode b_L_start 3 = .ok (.iload_n 1, 1) := by decide +kernel
theorem d_L_start_4 : decode b_L_start 4 = .ok (.invokevirtual 32, 3) := by decide +kernel
theorem d_L_start_7 : decode b_L_start 7 = .ok (.i2l, 1) := by decide +kernel
theorem d_L_start_8 : decode b_L_start 8 = .ok (.lastore, 1) := by decide +kernel
theorem d_L_start_9 : decode b_L_start 9 = .ok (.goto 6, 3) := by decide +kernel
theorem d_L_start_12 : decode b_L_start 12 = .ok (.astore_n 3, 1) := by decide +kernel
theorem d_L_start_13 : decode b_L_start 13 = .ok (.iconst 1, 1) := by decide +kernel
theorem d_L_start_14 : decode b_L_start 14 = .ok (.ireturn, 1) := by decide +kernel
theorem d_L_start_15 : decode b_L_start 15 = .ok (.iconst 0, 1) := by decide +kernel
theorem d_L_start_16 : decode b_L_start 16 = .ok (.ireturn, 1) := by decide +kernel
theorem d_L_late_0 : decode b_L_late 0 = .ok (.aload_n 2, 1) := by decide +kernel
theorem d_L_late_1 : decode b_L_late 1 = .ok (.iconst 0, 1) := by decide +kernel
theorem d_L_late_2 : decode b_L_late 2 = .ok (.aload_n 0, 1) := by decide +kernel
theorem d_L_late_3 : decode b_L_late 3 = .ok (.iload_n 1, 1) := by decide +kernel
theorem d_L_late_4 : decode b_L_late 4 = .ok (.invokevirtual 35, 3) := by decide +kernel
theorem d_L_late_7 : decode b_L_late 7 = .ok (.ifCond .eq 7, 3) := by decide +kernel
theorem d_L_late_10 : decode b_L_late 10 = .ok (.lconst 1, 1) := by decide +kernel
theorem d_L_late_11 : decode b_L_late 11 = .ok (.goto 4, 3) := by decide +kernel
theorem d_L_late_14 : decode b_L_late 14 = .ok (.lconst 0, 1) := by decide +kernel
theorem d_L_late_15 : decode b_L_late 15 = .ok (.lastore, 1) := by decide +kernel
theorem d_L_late_16 : decode b_L_late 16 = .ok (.goto 6, 3) := by decide +kernel
theorem d_L_late_19 : decode b_L_late 19 = .ok (.astore_n 3, 1) := by decide +kernel
theorem d_L_late_20 : decode b_L_late 20 = .ok (.iconst 1, 1) := by decide +kernel
theorem d_L_late_21 : decode b_L_late 21 = .ok (.ireturn, 1) := by decide +kernel
theorem d_L_late_22 : decode b_L_late 22 = .ok (.iconst 0, 1) := by decide +kernel
theorem d_L_late_23 : decode b_L_late 23 = .ok (.ireturn, 1) := by decide +kernel
theorem d_L_at_0 : decode b_L_at 0 = .ok (.aload_n 3, 1) := by decide +kernel
theorem d_L_at_1 : decode b_L_at 1 = .ok (.iconst 0, 1) := by decide +kernel
theorem d_L_at_2 : decode b_L_at 2 = .ok (.aload_n 0, 1) := by decide +kernel
theorem d_L_at_3 : decode b_L_at 3 = .ok (.iload_n 1, 1) := by decide +kernel
theorem d_L_at_4 : decode b_L_at 4 = .ok (.iload_n 2, 1) := by decide +kernel
theorem d_L_at_5 : decode b_L_at 5 = .ok (.invokevirtual 39, 3) := by decide +kernel
theorem d_L_at_8 : decode b_L_at 8 = .ok (.i2l, 1) := by decide +kernel
theorem d_L_at_9 : decode b_L_at 9 = .ok (.lastore, 1) := by decide +kernel
theorem d_L_at_10 : decode b_L_at 10 = .ok (.goto 7, 3) := by decide +kernel
theorem d_L_at_13 : decode b_L_at 13 = .ok (.astore 4, 2) := by decide +kernel
theorem d_L_at_15 : decode b_L_at 15 = .ok (.iconst 1, 1) := by decide +kernel
theorem d_L_at_16 : decode b_L_at 16 = .ok (.ireturn, 1) := by decide +kernel
theorem d_L_at_17 : decode b_L_at 17 = .ok (.iconst 0, 1) := by decide +kernel
theorem d_L_at_18 : decode b_L_at 18 = .ok (.ireturn, 1) := by decide +kernel
theorem d_L_used_0 : decode b_L_used 0 = .ok (.aload_n 2, 1) := by decide +kernel
theorem d_L_used_1 : decode b_L_used 1 = .ok (.iconst 0, 1) := by decide +kernel
theorem d_L_used_2 : decode b_L_used 2 = .ok (.aload_n 0, 1) := by decide +kernel
theorem d_L_used_3 : decode b_L_used 3 = .ok (.iload_n 1, 1) := by decide +kernel
theorem d_L_used_4 : decode b_L_used 4 = .ok (.invokevirtual 42, 3) := by decide +kernel
theorem d_L_used_7 : decode b_L_used 7 = .ok (.i2l, 1) := by decide +kernel
theorem d_L_used_8 : decode b_L_used 8 = .ok (.lastore, 1) := by decide +kernel
theorem d_L_used_9 : decode b_L_used 9 = .ok (.goto 6, 3) := by decide +kernel
theorem d_L_used_12 : decode b_L_used 12 = .ok (.astore_n 3, 1) := by decide +kernel
theorem d_L_used_13 : decode b_L_used 13 = .ok (.iconst 1, 1) := by decide +kernel
theorem d_L_used_14 : decode b_L_used 14 = .ok (.ireturn, 1) := by decide +kernel
theorem d_L_used_15 : decode b_L_used 15 = .ok (.iconst 0, 1) := by decide +kernel
theorem d_L_used_16 : decode b_L_used 16 = .ok (.ireturn, 1) := by decide +kernel
theorem d_L_cold_0 : decode b_L_cold 0 = .ok (.aload_n 2, 1) := by decide +kernel
theorem d_L_cold_1 : decode b_L_cold 1 = .ok (.iconst 0, 1) := by decide +kernel
theorem d_L_cold_2 : decode b_L_cold 2 = .ok (.aload_n 0, 1) := by decide +kernel
theorem d_L_cold_3 : decode b_L_cold 3 = .ok (.iload_n 1, 1) := by decide +kernel
theorem d_L_cold_4 : decode b_L_cold 4 = .ok (.invokevirtual 45, 3) := by decide +kernel
theorem d_L_cold_7 : decode b_L_cold 7 = .ok (.i2l, 1) := by decide +kernel
theorem d_L_cold_8 : decode b_L_cold 8 = .ok (.lastore, 1) := by decide +kernel
theorem d_L_cold_9 : decode b_L_cold 9 = .ok (.goto 6, 3) := by decide +kernel
theorem d_L_cold_12 : decode b_L_cold 12 = .ok (.astore_n 3, 1) := by decide +kernel
theorem d_L_cold_13 : decode b_L_cold 13 = .ok (.iconst 1, 1) := by decide +kernel
theorem d_L_cold_14 : decode b_L_cold 14 = .ok (.ireturn, 1) := by decide +kernel
theorem d_L_cold_15 : decode b_L_cold 15 = .ok (.iconst 0, 1) := by decide +kernel
theorem d_L_cold_16 : decode b_L_cold 16 = .ok (.ireturn, 1) := by decide +kernel
theorem d_L_fade_0 : decode b_L_fade 0 = .ok (.aload_n 0, 1) := by decide +kernel
theorem d_L_fade_1 : decode b_L_fade 1 = .ok (.iload_n 1, 1) := by decide +kernel
theorem d_L_fade_2 : decode b_L_fade 2 = .ok (.iload_n 2, 1) := by decide +kernel
theorem d_L_fade_3 : decode b_L_fade 3 = .ok (.invokevirtual 48, 3) := by decide +kernel
theorem d_L_fade_6 : decode b_L_fade 6 = .ok (.goto 6, 3) := by decide +kernel
theorem d_L_fade_9 : decode b_L_fade 9 = .ok (.astore_n 3, 1) := by decide +kernel
theorem d_L_fade_10 : decode b_L_fade 10 = .ok (.iconst 1, 1) := by decide +kernel
theorem d_L_fade_11 : decode b_L_fade 11 = .ok (.ireturn, 1) := by decide +kernel
theorem d_L_fade_12 : decode b_L_fade 12 = .ok (.iconst 0, 1) := by decide +kernel
theorem d_L_fade_13 : decode b_L_fade 13 = .ok (.ireturn, 1) := by decide +kernel
theorem d_L_day_0 : decode b_L_day 0 = .ok (.aload_n 0, 1) := by decide +kernel
theorem d_L_day_1 : decode b_L_day 1 = .ok (.iload_n 1, 1) := by decide +kernel
theorem d_L_day_2 : decode b_L_day 2 = .ok (.iload_n 2, 1) := by decide +kernel
theorem d_L_day_3 : decode b_L_day 3 = .ok (.invokevirtual 52, 3) := by decide +kernel
theorem d_L_day_6 : decode b_L_day 6 = .ok (.goto 6, 3) := by decide +kernel
theorem d_L_day_9 : decode b_L_day 9 = .ok (.astore_n 3, 1) := by decide +kernel
theorem d_L_day_10 : decode b_L_day 10 = .ok (.iconst 1, 1) := by decide +kernel
theorem d_L_day_11 : decode b_L_day 11 = .ok (.ireturn, 1) := by decide +kernel
theorem d_L_day_12 : decode b_L_day 12 = .ok (.iconst 0, 1) := by decide +kernel
theorem d_L_day_13 : decode b_L_day 13 = .ok (.ireturn, 1) := by decide +kernel
theorem d_L_lesson_0 : decode b_L_lesson 0 = .ok (.aload_n 3, 1) := by decide +kernel
theorem d_L_lesson_1 : decode b_L_lesson 1 = .ok (.iconst 0, 1) := by decide +kernel
theorem d_L_lesson_2 : decode b_L_lesson 2 = .ok (.aload_n 0, 1) := by decide +kernel
theorem d_L_lesson_3 : decode b_L_lesson 3 = .ok (.iload_n 1, 1) := by decide +kernel
theorem d_L_lesson_4 : decode b_L_lesson 4 = .ok (.iload_n 2, 1) := by decide +kernel
theorem d_L_lesson_5 : decode b_L_lesson 5 = .ok (.invokevirtual 55, 3) := by decide +kernel
theorem d_L_lesson_8 : decode b_L_lesson 8 = .ok (.lastore, 1) := by decide +kernel
theorem d_L_lesson_9 : decode b_L_lesson 9 = .ok (.goto 7, 3) := by decide +kernel
theorem d_L_lesson_12 : decode b_L_lesson 12 = .ok (.astore 4, 2) := by decide +kernel
theorem d_L_lesson_14 : decode b_L_lesson 14 = .ok (.iconst 1, 1) := by decide +kernel
theorem d_L_lesson_15 : decode b_L_lesson 15 = .ok (.ireturn, 1) := by decide +kernel
theorem d_L_lesson_16 : decode b_L_lesson 16 = .ok (.iconst 0, 1) := by decide +kernel
theorem d_L_lesson_17 : decode b_L_lesson 17 = .ok (.ireturn, 1) := by decide +kernel
theorem d_L_taught_0 : decode b_L_taught 0 = .ok (.aload_n 2, 1) := by decide +kernel
theorem d_L_taught_1 : decode b_L_taught 1 = .ok (.iconst 0, 1) := by decide +kernel
theorem d_L_taught_2 : decode b_L_taught 2 = .ok (.aload_n 0, 1) := by decide +kernel
theorem d_L_taught_3 : decode b_L_taught 3 = .ok (.iload_n 1, 1) := by decide +kernel
theorem d_L_taught_4 : decode b_L_taught 4 = .ok (.invokevirtual 59, 3) := by decide +kernel
theorem d_L_taught_7 : decode b_L_taught 7 = .ok (.i2l, 1) := by decide +kernel
theorem d_L_taught_8 : decode b_L_taught 8 = .ok (.lastore, 1) := by decide +kernel
theorem d_L_taught_9 : decode b_L_taught 9 = .ok (.goto 6, 3) := by decide +kernel
theorem d_L_taught_12 : decode b_L_taught 12 = .ok (.astore_n 3, 1) := by decide +kernel
theorem d_L_taught_13 : decode b_L_taught 13 = .ok (.iconst 1, 1) := by decide +kernel
theorem d_L_taught_14 : decode b_L_taught 14 = .ok (.ireturn, 1) := by decide +kernel
theorem d_L_taught_15 : decode b_L_taught 15 = .ok (.iconst 0, 1) := by decide +kernel
theorem d_L_taught_16 : decode b_L_taught 16 = .ok (.ireturn, 1) := by decide +kernel
theorem d_L_price_0 : decode b_L_price 0 = .ok (.aload_n 3, 1) := by decide +kernel
theorem d_L_price_1 : decode b_L_price 1 = .ok (.iconst 0, 1) := by decide +kernel
theorem d_L_price_2 : decode b_L_price 2 = .ok (.aload_n 0, 1) := by decide +kernel
theorem d_L_price_3 : decode b_L_price 3 = .ok (.iload_n 1, 1) := by decide +kernel
theorem d_L_price_4 : decode b_L_price 4 = .ok (.iload_n 2, 1) := by decide +kernel
theorem d_L_price_5 : decode b_L_price 5 = .ok (.invokevirtual 62, 3) := by decide +kernel
theorem d_L_price_8 : decode b_L_price 8 = .ok (.i2l, 1) := by decide +kernel
theorem d_L_price_9 : decode b_L_price 9 = .ok (.lastore, 1) := by decide +kernel
theorem d_L_price_10 : decode b_L_price 10 = .ok (.goto 7, 3) := by decide +kernel
theorem d_L_price_13 : decode b_L_price 13 = .ok (.astore 4, 2) := by decide +kernel
theorem d_L_price_15 : decode b_L_price 15 = .ok (.iconst 1, 1) := by decide +kernel
theorem d_L_price_16 : decode b_L_price 16 = .ok (.ireturn, 1) := by decide +kernel
theorem d_L_price_17 : decode b_L_price 17 = .ok (.iconst 0, 1) := by decide +kernel
theorem d_L_price_18 : decode b_L_price 18 = .ok (.ireturn, 1) := by decide +kernel
theorem d_L_cheapest_0 : decode b_L_cheapest 0 = .ok (.aload 4, 2) := by decide +kernel
theorem d_L_cheapest_2 : decode b_L_cheapest 2 = .ok (.iconst 0, 1) := by decide +kernel
theorem d_L_cheapest_3 : decode b_L_cheapest 3 = .ok (.aload_n 0, 1) := by decide +kernel
theorem d_L_cheapest_4 : decode b_L_cheapest 4 = .ok (.iload_n 1, 1) := by decide +kernel
theorem d_L_cheapest_5 : decode b_L_cheapest 5 = .ok (.iload_n 2, 1) := by decide +kernel
theorem d_L_cheapest_6 : decode b_L_cheapest 6 = .ok (.iload_n 3, 1) := by decide +kernel
theorem d_L_cheapest_7 : decode b_L_cheapest 7 = .ok (.invokevirtual 65, 3) := by decide +kernel
theorem d_L_cheapest_10 : decode b_L_cheapest 10 = .ok (.i2l, 1) := by decide +kernel
theorem d_L_cheapest_11 : decode b_L_cheapest 11 = .ok (.lastore, 1) := by decide +kernel
theorem d_L_cheapest_12 : decode b_L_cheapest 12 = .ok (.goto 11, 3) := by decide +kernel
theorem d_L_cheapest_15 : decode b_L_cheapest 15 = .ok (.astore 5, 2) := by decide +kernel
theorem d_L_cheapest_17 : decode b_L_cheapest 17 = .ok (.iconst 1, 1) := by decide +kernel
theorem d_L_cheapest_18 : decode b_L_cheapest 18 = .ok (.ireturn, 1) := by decide +kernel
theorem d_L_cheapest_19 : decode b_L_cheapest 19 = .ok (.astore 5, 2) := by decide +kernel
theorem d_L_cheapest_21 : decode b_L_cheapest 21 = .ok (.iconst 2, 1) := by decide +kernel
theorem d_L_cheapest_22 : decode b_L_cheapest 22 = .ok (.ireturn, 1) := by decide +kernel
theorem d_L_cheapest_23 : decode b_L_cheapest 23 = .ok (.iconst 0, 1) := by decide +kernel
theorem d_L_cheapest_24 : decode b_L_cheapest 24 = .ok (.ireturn, 1) := by decide +kernel
theorem d_L_costs_0 : decode b_L_costs 0 = .ok (.aload 5, 2) := by decide +kernel
theorem d_L_costs_2 : decode b_L_costs 2 = .ok (.iconst 0, 1) := by decide +kernel
theorem d_L_costs_3 : decode b_L_costs 3 = .ok (.aload_n 0, 1) := by decide +kernel
theorem d_L_costs_4 : decode b_L_costs 4 = .ok (.iload_n 1, 1) := by decide +kernel
theorem d_L_costs_5 : decode b_L_costs 5 = .ok (.iload_n 2, 1) := by decide +kernel
theorem d_L_costs_6 : decode b_L_costs 6 = .ok (.iload_n 3, 1) := by decide +kernel
theorem d_L_costs_7 : decode b_L_costs 7 = .ok (.iload 4, 2) := by decide +kernel
theorem d_L_costs_9 : decode b_L_costs 9 = .ok (.invokevirtual 68, 3) := by decide +kernel
theorem d_L_costs_12 : decode b_L_costs 12 = .ok (.lastore, 1) := by decide +kernel
theorem d_L_costs_13 : decode b_L_costs 13 = .ok (.goto 11, 3) := by decide +kernel
theorem d_L_costs_16 : decode b_L_costs 16 = .ok (.astore 6, 2) := by decide +kernel
theorem d_L_costs_18 : decode b_L_costs 18 = .ok (.iconst 1, 1) := by decide +kernel
theorem d_L_costs_19 : decode b_L_costs 19 = .ok (.ireturn, 1) := by decide +kernel
theorem d_L_costs_20 : decode b_L_costs 20 = .ok (.astore 6, 2) := by decide +kernel
theorem d_L_costs_22 : decode b_L_costs 22 = .ok (.iconst 2, 1) := by decide +kernel
theorem d_L_costs_23 : decode b_L_costs 23 = .ok (.ireturn, 1) := by decide +kernel
theorem d_L_costs_24 : decode b_L_costs 24 = .ok (.iconst 0, 1) := by decide +kernel
theorem d_L_costs_25 : decode b_L_costs 25 = .ok (.ireturn, 1) := by decide +kernel
