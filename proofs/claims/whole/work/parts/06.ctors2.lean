theorem d_So_init_0 : decode c_So_init 0 = .ok (.aload_n 0, 1) := by decide +kernel
theorem d_So_init_1 : decode c_So_init 1 = .ok (.invokespecial 3, 3) := by decide +kernel
theorem d_So_init_4 : decode c_So_init 4 = .ok (.aload_n 0, 1) := by decide +kernel
theorem d_So_init_5 : decode c_So_init 5 = .ok (.sipush 3731, 3) := by decide +kernel
theorem d_So_init_8 : decode c_So_init 8 = .ok (.anewarray 9, 3) := by decide +kernel
theorem d_So_init_11 : decode c_So_init 11 = .ok (.putfield 11, 3) := by decide +kernel
theorem d_So_init_14 : decode c_So_init 14 = .ok (.aload_n 0, 1) := by decide +kernel
theorem d_So_init_15 : decode c_So_init 15 = .ok (.bipush 40, 2) := by decide +kernel
theorem d_So_init_17 : decode c_So_init 17 = .ok (.newarray .int, 2) := by decide +kernel
theorem d_So_init_19 : decode c_So_init 19 = .ok (.putfield 17, 3) := by decide +kernel
theorem d_So_init_22 : decode c_So_init 22 = .ok (.aload_n 0, 1) := by decide +kernel
theorem d_So_init_23 : decode c_So_init 23 = .ok (.bipush 40, 2) := by decide +kernel
theorem d_So_init_25 : decode c_So_init 25 = .ok (.newarray .int, 2) := by decide +kernel
theorem d_So_init_27 : decode c_So_init 27 = .ok (.putfield 21, 3) := by decide +kernel
theorem d_So_init_30 : decode c_So_init 30 = .ok (.aload_n 0, 1) := by decide +kernel
theorem d_So_init_31 : decode c_So_init 31 = .ok (.bipush 91, 2) := by decide +kernel
theorem d_So_init_33 : decode c_So_init 33 = .ok (.newarray .int, 2) := by decide +kernel
theorem d_So_init_35 : decode c_So_init 35 = .ok (.putfield 24, 3) := by decide +kernel
theorem d_So_init_38 : decode c_So_init 38 = .ok (.aload_n 0, 1) := by decide +kernel
theorem d_So_init_39 : decode c_So_init 39 = .ok (.bipush 40, 2) := by decide +kernel
theorem d_So_init_41 : decode c_So_init 41 = .ok (.newarray .int, 2) := by decide +kernel
theorem d_So_init_43 : decode c_So_init 43 = .ok (.putfield 27, 3) := by decide +kernel
theorem d_So_init_46 : decode c_So_init 46 = .ok (.aload_n 0, 1) := by decide +kernel
theorem d_So_init_47 : decode c_So_init 47 = .ok (.new 9, 3) := by decide +kernel
theorem d_So_init_50 : decode c_So_init 50 = .ok (.dup, 1) := by decide +kernel
theorem d_So_init_51 : decode c_So_init 51 = .ok (.invokespecial 30, 3) := by decide +kernel
theorem d_So_init_54 : decode c_So_init 54 = .ok (.putfield 31, 3) := by decide +kernel
theorem d_So_init_57 : decode c_So_init 57 = .ok (.aload_n 0, 1) := by decide +kernel
theorem d_So_init_58 : decode c_So_init 58 = .ok (.new 9, 3) := by decide +kernel
theorem d_So_init_61 : decode c_So_init 61 = .ok (.dup, 1) := by decide +kernel
theorem d_So_init_62 : decode c_So_init 62 = .ok (.invokespecial 30, 3) := by decide +kernel
theorem d_So_init_65 : decode c_So_init 65 = .ok (.putfield 35, 3) := by decide +kernel
theorem d_So_init_68 : decode c_So_init 68 = .ok (.aload_n 0, 1) := by decide +kernel
theorem d_So_init_69 : decode c_So_init 69 = .ok (.new 9, 3) := by decide +kernel
theorem d_So_init_72 : decode c_So_init 72 = .ok (.dup, 1) := by decide +kernel
theorem d_So_init_73 : decode c_So_init 73 = .ok (.invokespecial 30, 3) := by decide +kernel
theorem d_So_init_76 : decode c_So_init 76 = .ok (.putfield 38, 3) := by decide +kernel
theorem d_So_init_79 : decode c_So_init 79 = .ok (.aload_n 0, 1) := by decide +kernel
theorem d_So_init_80 : decode c_So_init 80 = .ok (.new 9, 3) := by decide +kernel
theorem d_So_init_83 : decode c_So_init 83 = .ok (.dup, 1) := by decide +kernel
theorem d_So_init_84 : decode c_So_init 84 = .ok (.invokespecial 30, 3) := by decide +kernel
theorem d_So_init_87 : decode c_So_init 87 = .ok (.putfield 41, 3) := by decide +kernel
theorem d_So_init_90 : decode c_So_init 90 = .ok (.aload_n 0, 1) := by decide +kernel
theorem d_So_init_91 : decode c_So_init 91 = .ok (.new 9, 3) := by decide +kernel
theorem d_So_init_94 : decode c_So_init 94 = .ok (.dup, 1) := by decide +kernel
theorem d_So_init_95 : decode c_So_init 95 = .ok (.invokespecial 30, 3) := by decide +kernel
theorem d_So_init_98 : decode c_So_init 98 = .ok (.putfield 44, 3) := by decide +kernel
theorem d_So_init_101 : decode c_So_init 101 = .ok (.return_, 1) := by decide +kernel
theorem d_Be_init_0 : decode c_Be_init 0 = .ok (.aload_n 0, 1) := by decide +kernel
theorem d_Be_init_1 : decode c_Be_init 1 = .ok (.invokespecial 3, 3) := by decide +kernel
theorem d_Be_init_4 : decode c_Be_init 4 = .ok (.aload_n 0, 1) := by decide +kernel
theorem d_Be_init_5 : decode c_Be_init 5 = .ok (.iconst 4, 1) := by decide +kernel
theorem d_Be_init_6 : decode c_Be_init 6 = .ok (.anewarray 9, 3) := by decide +kernel
theorem d_Be_init_9 : decode c_Be_init 9 = .ok (.putfield 11, 3) := by decide +kernel
theorem d_Be_init_12 : decode c_Be_init 12 = .ok (.aload_n 0, 1) := by decide +kernel
theorem d_Be_init_13 : decode c_Be_init 13 = .ok (.new 9, 3) := by decide +kernel
theorem d_Be_init_16 : decode c_Be_init 16 = .ok (.dup, 1) := by decide +kernel
theorem d_Be_init_17 : decode c_Be_init 17 = .ok (.invokespecial 17, 3) := by decide +kernel
theorem d_Be_init_20 : decode c_Be_init 20 = .ok (.putfield 18, 3) := by decide +kernel
theorem d_Be_init_23 : decode c_Be_init 23 = .ok (.aload_n 0, 1) := by decide +kernel
theorem d_Be_init_24 : decode c_Be_init 24 = .ok (.new 9, 3) := by decide +kernel
theorem d_Be_init_27 : decode c_Be_init 27 = .ok (.dup, 1) := by decide +kernel
theorem d_Be_init_28 : decode c_Be_init 28 = .ok (.invokespecial 17, 3) := by decide +kernel
theorem d_Be_init_31 : decode c_Be_init 31 = .ok (.putfield 22, 3) := by decide +kernel
theorem d_Be_init_34 : decode c_Be_init 34 = .ok (.aload_n 0, 1) := by decide +kernel
theorem d_Be_init_35 : decode c_Be_init 35 = .ok (.new 9, 3) := by decide +kernel
theorem d_Be_init_38 : decode c_Be_init 38 = .ok (.dup, 1) := by decide +kernel
theorem d_Be_init_39 : decode c_Be_init 39 = .ok (.invokespecial 17, 3) := by decide +kernel
theorem d_Be_init_42 : decode c_Be_init 42 = .ok (.putfield 25, 3) := by decide +kernel
theorem d_Be_init_45 : decode c_Be_init 45 = .ok (.aload_n 0, 1) := by decide +kernel
theorem d_Be_init_46 : decode c_Be_init 46 = .ok (.new 9, 3) := by decide +kernel
theorem d_Be_init_49 : decode c_Be_init 49 = .ok (.dup, 1) := by decide +kernel
theorem d_Be_init_50 : decode c_Be_init 50 = .ok (.invokespecial 17, 3) := by decide +kernel
theorem d_Be_init_53 : decode c_Be_init 53 = .ok (.putfield 28, 3) := by decide +kernel
theorem d_Be_init_56 : decode c_Be_init 56 = .ok (.aload_n 0, 1) := by decide +kernel
theorem d_Be_init_57 : decode c_Be_init 57 = .ok (.new 9, 3) := by decide +kernel
theorem d_Be_init_60 : decode c_Be_init 60 = .ok (.dup, 1) := by decide +kernel
theorem d_Be_init_61 : decode c_Be_init 61 = .ok (.invokespecial 17, 3) := by decide +kernel
theorem d_Be_init_64 : decode c_Be_init 64 = .ok (.putfield 31, 3) := by decide +kernel
theorem d_Be_init_67 : decode c_Be_init 67 = .ok (.iconst 0, 1) := by decide +kernel
theorem d_Be_init_68 : decode c_Be_init 68 = .ok (.istore_n 1, 1) := by decide +kernel
theorem d_Be_init_69 : decode c_Be_init 69 = .ok (.iload_n 1, 1) := by decide +kernel
theorem d_Be_init_70 : decode c_Be_init 70 = .ok (.iconst 3, 1) := by decide +kernel
theorem d_Be_init_71 : decode c_Be_init 71 = .ok (.if_icmp .gt 22, 3) := by decide +kernel
theorem d_Be_init_74 : decode c_Be_init 74 = .ok (.aload_n 0, 1) := by decide +kernel
theorem d_Be_init_75 : decode c_Be_init 75 = .ok (.getfield 11, 3) := by decide +kernel
theorem d_Be_init_78 : decode c_Be_init 78 = .ok (.iload_n 1, 1) := by decide +kernel
theorem d_Be_init_79 : decode c_Be_init 79 = .ok (.new 9, 3) := by decide +kernel
theorem d_Be_init_82 : decode c_Be_init 82 = .ok (.dup, 1) := by decide +kernel
theorem d_Be_init_83 : decode c_Be_init 83 = .ok (.invokespecial 17, 3) := by decide +kernel
theorem d_Be_init_86 : decode c_Be_init 86 = .ok (.aastore, 1) := by decide +kernel
theorem d_Be_init_87 : decode c_Be_init 87 = .ok (.iinc 1 1, 3) := by decide +kernel
theorem d_Be_init_90 : decode c_Be_init 90 = .ok (.goto (-21), 3) := by decide +kernel
theorem d_Be_init_93 : decode c_Be_init 93 = .ok (.return_, 1) := by decide +kernel