theorem d_PB_init_0 : decode c_PB_init 0 = .ok (.aload_n 0, 1) := by decide +kernel
theorem d_PB_init_1 : decode c_PB_init 1 = .ok (.invokespecial 3, 3) := by decide +kernel
theorem d_PB_init_4 : decode c_PB_init 4 = .ok (.aload_n 0, 1) := by decide +kernel
theorem d_PB_init_5 : decode c_PB_init 5 = .ok (.iconst 4, 1) := by decide +kernel
theorem d_PB_init_6 : decode c_PB_init 6 = .ok (.anewarray 9, 3) := by decide +kernel
theorem d_PB_init_9 : decode c_PB_init 9 = .ok (.putfield 11, 3) := by decide +kernel
theorem d_PB_init_12 : decode c_PB_init 12 = .ok (.aload_n 0, 1) := by decide +kernel
theorem d_PB_init_13 : decode c_PB_init 13 = .ok (.new 15, 3) := by decide +kernel
theorem d_PB_init_16 : decode c_PB_init 16 = .ok (.dup, 1) := by decide +kernel
theorem d_PB_init_17 : decode c_PB_init 17 = .ok (.invokespecial 17, 3) := by decide +kernel
theorem d_PB_init_20 : decode c_PB_init 20 = .ok (.putfield 18, 3) := by decide +kernel
theorem d_PB_init_23 : decode c_PB_init 23 = .ok (.aload_n 0, 1) := by decide +kernel
theorem d_PB_init_24 : decode c_PB_init 24 = .ok (.new 22, 3) := by decide +kernel
theorem d_PB_init_27 : decode c_PB_init 27 = .ok (.dup, 1) := by decide +kernel
theorem d_PB_init_28 : decode c_PB_init 28 = .ok (.invokespecial 24, 3) := by decide +kernel
theorem d_PB_init_31 : decode c_PB_init 31 = .ok (.putfield 25, 3) := by decide +kernel
theorem d_PB_init_34 : decode c_PB_init 34 = .ok (.aload_n 0, 1) := by decide +kernel
theorem d_PB_init_35 : decode c_PB_init 35 = .ok (.bipush (-2), 2) := by decide +kernel
theorem d_PB_init_37 : decode c_PB_init 37 = .ok (.putfield 29, 3) := by decide +kernel
theorem d_PB_init_40 : decode c_PB_init 40 = .ok (.iconst 0, 1) := by decide +kernel
theorem d_PB_init_41 : decode c_PB_init 41 = .ok (.istore_n 1, 1) := by decide +kernel
theorem d_PB_init_42 : decode c_PB_init 42 = .ok (.iload_n 1, 1) := by decide +kernel
theorem d_PB_init_43 : decode c_PB_init 43 = .ok (.iconst 4, 1) := by decide +kernel
theorem d_PB_init_44 : decode c_PB_init 44 = .ok (.if_icmp .ge 22, 3) := by decide +kernel
theorem d_PB_init_47 : decode c_PB_init 47 = .ok (.aload_n 0, 1) := by decide +kernel
theorem d_PB_init_48 : decode c_PB_init 48 = .ok (.getfield 11, 3) := by decide +kernel
theorem d_PB_init_51 : decode c_PB_init 51 = .ok (.iload_n 1, 1) := by decide +kernel
theorem d_PB_init_52 : decode c_PB_init 52 = .ok (.new 9, 3) := by decide +kernel
theorem d_PB_init_55 : decode c_PB_init 55 = .ok (.dup, 1) := by decide +kernel
theorem d_PB_init_56 : decode c_PB_init 56 = .ok (.invokespecial 33, 3) := by decide +kernel
theorem d_PB_init_59 : decode c_PB_init 59 = .ok (.aastore, 1) := by decide +kernel
theorem d_PB_init_60 : decode c_PB_init 60 = .ok (.iinc 1 1, 3) := by decide +kernel
theorem d_PB_init_63 : decode c_PB_init 63 = .ok (.goto (-21), 3) := by decide +kernel
theorem d_PB_init_66 : decode c_PB_init 66 = .ok (.aload_n 0, 1) := by decide +kernel
theorem d_PB_init_67 : decode c_PB_init 67 = .ok (.new 34, 3) := by decide +kernel
theorem d_PB_init_70 : decode c_PB_init 70 = .ok (.dup, 1) := by decide +kernel
theorem d_PB_init_71 : decode c_PB_init 71 = .ok (.aload_n 0, 1) := by decide +kernel
theorem d_PB_init_72 : decode c_PB_init 72 = .ok (.getfield 11, 3) := by decide +kernel
theorem d_PB_init_75 : decode c_PB_init 75 = .ok (.invokespecial 36, 3) := by decide +kernel
theorem d_PB_init_78 : decode c_PB_init 78 = .ok (.putfield 39, 3) := by decide +kernel
theorem d_PB_init_81 : decode c_PB_init 81 = .ok (.aload_n 0, 1) := by decide +kernel
theorem d_PB_init_82 : decode c_PB_init 82 = .ok (.new 43, 3) := by decide +kernel
theorem d_PB_init_85 : decode c_PB_init 85 = .ok (.dup, 1) := by decide +kernel
theorem d_PB_init_86 : decode c_PB_init 86 = .ok (.aload_n 0, 1) := by decide +kernel
theorem d_PB_init_87 : decode c_PB_init 87 = .ok (.getfield 11, 3) := by decide +kernel
theorem d_PB_init_90 : decode c_PB_init 90 = .ok (.invokespecial 45, 3) := by decide +kernel
theorem d_PB_init_93 : decode c_PB_init 93 = .ok (.putfield 46, 3) := by decide +kernel
theorem d_PB_init_96 : decode c_PB_init 96 = .ok (.aload_n 0, 1) := by decide +kernel
theorem d_PB_init_97 : decode c_PB_init 97 = .ok (.new 50, 3) := by decide +kernel
theorem d_PB_init_100 : decode c_PB_init 100 = .ok (.dup, 1) := by decide +kernel
theorem d_PB_init_101 : decode c_PB_init 101 = .ok (.aload_n 0, 1) := by decide +kernel
theorem d_PB_init_102 : decode c_PB_init 102 = .ok (.getfield 11, 3) := by decide +kernel
theorem d_PB_init_105 : decode c_PB_init 105 = .ok (.invokespecial 52, 3) := by decide +kernel
theorem d_PB_init_108 : decode c_PB_init 108 = .ok (.putfield 53, 3) := by decide +kernel
theorem d_PB_init_111 : decode c_PB_init 111 = .ok (.return_, 1) := by decide +kernel