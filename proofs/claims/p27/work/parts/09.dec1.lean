theorem dX1_init_0 : decode cX1_init 0 = .ok (.aload_n 0, 1) := by decide +kernel
theorem dX1_init_1 : decode cX1_init 1 = .ok (.invokespecial 1, 3) := by decide +kernel
theorem dX1_init_4 : decode cX1_init 4 = .ok (.return_, 1) := by decide +kernel
theorem dX2_init_0 : decode cX2_init 0 = .ok (.aload_n 0, 1) := by decide +kernel
theorem dX2_init_1 : decode cX2_init 1 = .ok (.invokespecial 3, 3) := by decide +kernel
theorem dX2_init_4 : decode cX2_init 4 = .ok (.return_, 1) := by decide +kernel
theorem dX2_begin_0 : decode cX2_begin 0 = .ok (.aload_n 0, 1) := by decide +kernel
theorem dX2_begin_1 : decode cX2_begin 1 = .ok (.iconst 0, 1) := by decide +kernel
theorem dX2_begin_2 : decode cX2_begin 2 = .ok (.putfield 9, 3) := by decide +kernel
theorem dX2_begin_5 : decode cX2_begin 5 = .ok (.aload_n 0, 1) := by decide +kernel
theorem dX2_begin_6 : decode cX2_begin 6 = .ok (.iconst 0, 1) := by decide +kernel
theorem dX2_begin_7 : decode cX2_begin 7 = .ok (.putfield 15, 3) := by decide +kernel
theorem dX2_begin_10 : decode cX2_begin 10 = .ok (.aload_n 0, 1) := by decide +kernel
theorem dX2_begin_11 : decode cX2_begin 11 = .ok (.iconst 0, 1) := by decide +kernel
theorem dX2_begin_12 : decode cX2_begin 12 = .ok (.putfield 18, 3) := by decide +kernel
theorem dX2_begin_15 : decode cX2_begin 15 = .ok (.aload_n 0, 1) := by decide +kernel
theorem dX2_begin_16 : decode cX2_begin 16 = .ok (.aconst_null, 1) := by decide +kernel
theorem dX2_begin_17 : decode cX2_begin 17 = .ok (.putfield 21, 3) := by decide +kernel
theorem dX2_begin_20 : decode cX2_begin 20 = .ok (.aload_n 0, 1) := by decide +kernel
theorem dX2_begin_21 : decode cX2_begin 21 = .ok (.aconst_null, 1) := by decide +kernel
theorem dX2_begin_22 : decode cX2_begin 22 = .ok (.putfield 25, 3) := by decide +kernel
theorem dX2_begin_25 : decode cX2_begin 25 = .ok (.aload_n 0, 1) := by decide +kernel
theorem dX2_begin_26 : decode cX2_begin 26 = .ok (.aconst_null, 1) := by decide +kernel
theorem dX2_begin_27 : decode cX2_begin 27 = .ok (.putfield 29, 3) := by decide +kernel
theorem dX2_begin_30 : decode cX2_begin 30 = .ok (.aload_n 0, 1) := by decide +kernel
theorem dX2_begin_31 : decode cX2_begin 31 = .ok (.ldc 32, 2) := by decide +kernel
theorem dX2_begin_33 : decode cX2_begin 33 = .ok (.putfield 33, 3) := by decide +kernel
theorem dX2_begin_36 : decode cX2_begin 36 = .ok (.aload_n 0, 1) := by decide +kernel
theorem dX2_begin_37 : decode cX2_begin 37 = .ok (.aconst_null, 1) := by decide +kernel
theorem dX2_begin_38 : decode cX2_begin 38 = .ok (.putfield 36, 3) := by decide +kernel
theorem dX2_begin_41 : decode cX2_begin 41 = .ok (.aload_n 0, 1) := by decide +kernel
theorem dX2_begin_42 : decode cX2_begin 42 = .ok (.iconst 0, 1) := by decide +kernel
theorem dX2_begin_43 : decode cX2_begin 43 = .ok (.putfield 40, 3) := by decide +kernel
theorem dX2_begin_46 : decode cX2_begin 46 = .ok (.aload_n 0, 1) := by decide +kernel
theorem dX2_begin_47 : decode cX2_begin 47 = .ok (.iconst 0, 1) := by decide +kernel
theorem dX2_begin_48 : decode cX2_begin 48 = .ok (.putfield 43, 3) := by decide +kernel
theorem dX2_begin_51 : decode cX2_begin 51 = .ok (.aload_n 0, 1) := by decide +kernel
theorem dX2_begin_52 : decode cX2_begin 52 = .ok (.aconst_null, 1) := by decide +kernel
theorem dX2_begin_53 : decode cX2_begin 53 = .ok (.putfield 46, 3) := by decide +kernel
theorem dX2_begin_56 : decode cX2_begin 56 = .ok (.aload_n 0, 1) := by decide +kernel
theorem dX2_begin_57 : decode cX2_begin 57 = .ok (.aconst_null, 1) := by decide +kernel
theorem dX2_begin_58 : decode cX2_begin 58 = .ok (.putfield 49, 3) := by decide +kernel
theorem dX2_begin_61 : decode cX2_begin 61 = .ok (.return_, 1) := by decide +kernel
theorem dX2_pend_0 : decode cX2_pend 0 = .ok (.aload_n 0, 1) := by decide +kernel
theorem dX2_pend_1 : decode cX2_pend 1 = .ok (.aload_n 0, 1) := by decide +kernel
theorem dX2_pend_2 : decode cX2_pend 2 = .ok (.getfield 15, 3) := by decide +kernel
theorem dX2_pend_5 : decode cX2_pend 5 = .ok (.iload_n 1, 1) := by decide +kernel
theorem dX2_pend_6 : decode cX2_pend 6 = .ok (.invokestatic 52, 3) := by decide +kernel
theorem dX2_pend_9 : decode cX2_pend 9 = .ok (.putfield 15, 3) := by decide +kernel
theorem dX2_pend_12 : decode cX2_pend 12 = .ok (.aload_n 0, 1) := by decide +kernel
theorem dX2_pend_13 : decode cX2_pend 13 = .ok (.aload_n 0, 1) := by decide +kernel
theorem dX2_pend_14 : decode cX2_pend 14 = .ok (.getfield 18, 3) := by decide +kernel
theorem dX2_pend_17 : decode cX2_pend 17 = .ok (.iload_n 1, 1) := by decide +kernel
theorem dX2_pend_18 : decode cX2_pend 18 = .ok (.invokestatic 58, 3) := by decide +kernel
theorem dX2_pend_21 : decode cX2_pend 21 = .ok (.putfield 18, 3) := by decide +kernel
theorem dX2_pend_24 : decode cX2_pend 24 = .ok (.return_, 1) := by decide +kernel
theorem dX2_pendingY_0 : decode cX2_pendingY 0 = .ok (.aload_n 0, 1) := by decide +kernel
theorem dX2_pendingY_1 : decode cX2_pendingY 1 = .ok (.getfield 9, 3) := by decide +kernel
theorem dX2_pendingY_4 : decode cX2_pendingY 4 = .ok (.aload_n 0, 1) := by decide +kernel
theorem dX2_pendingY_5 : decode cX2_pendingY 5 = .ok (.getfield 15, 3) := by decide +kernel
theorem dX2_pendingY_8 : decode cX2_pendingY 8 = .ok (.iadd, 1) := by decide +kernel
theorem dX2_pendingY_9 : decode cX2_pendingY 9 = .ok (.aload_n 0, 1) := by decide +kernel
theorem dX2_pendingY_10 : decode cX2_pendingY 10 = .ok (.getfield 18, 3) := by decide +kernel
theorem dX2_pendingY_13 : decode cX2_pendingY 13 = .ok (.iadd, 1) := by decide +kernel
theorem dX2_pendingY_14 : decode cX2_pendingY 14 = .ok (.ireturn, 1) := by decide +kernel
theorem dX2_dropMargins_0 : decode cX2_dropMargins 0 = .ok (.aload_n 0, 1) := by decide +kernel
theorem dX2_dropMargins_1 : decode cX2_dropMargins 1 = .ok (.iconst 0, 1) := by decide +kernel
theorem dX2_dropMargins_2 : decode cX2_dropMargins 2 = .ok (.putfield 15, 3) := by decide +kernel
theorem dX2_dropMargins_5 : decode cX2_dropMargins 5 = .ok (.aload_n 0, 1) := by decide +kernel
theorem dX2_dropMargins_6 : decode cX2_dropMargins 6 = .ok (.iconst 0, 1) := by decide +kernel
theorem dX2_dropMargins_7 : decode cX2_dropMargins 7 = .ok (.putfield 18, 3) := by decide +kernel
theorem dX2_dropMargins_10 : decode cX2_dropMargins 10 = .ok (.return_, 1) := by decide +kernel
theorem dX2_endMargins_0 : decode cX2_endMargins 0 = .ok (.aload_n 0, 1) := by decide +kernel
theorem dX2_endMargins_1 : decode cX2_endMargins 1 = .ok (.aload_n 0, 1) := by decide +kernel
theorem dX2_endMargins_2 : decode cX2_endMargins 2 = .ok (.invokevirtual 61, 3) := by decide +kernel
theorem dX2_endMargins_5 : decode cX2_endMargins 5 = .ok (.putfield 9, 3) := by decide +kernel
theorem dX2_endMargins_8 : decode cX2_endMargins 8 = .ok (.aload_n 0, 1) := by decide +kernel
theorem dX2_endMargins_9 : decode cX2_endMargins 9 = .ok (.invokevirtual 65, 3) := by decide +kernel
theorem dX2_endMargins_12 : decode cX2_endMargins 12 = .ok (.aload_n 0, 1) := by decide +kernel
theorem dX2_endMargins_13 : decode cX2_endMargins 13 = .ok (.getfield 21, 3) := by decide +kernel
theorem dX2_endMargins_16 : decode cX2_endMargins 16 = .ok (.astore_n 1, 1) := by decide +kernel
theorem dX2_endMargins_17 : decode cX2_endMargins 17 = .ok (.aload_n 1, 1) := by decide +kernel
theorem dX2_endMargins_18 : decode cX2_endMargins 18 = .ok (.ifnull 24, 3) := by decide +kernel
theorem dX2_endMargins_21 : decode cX2_endMargins 21 = .ok (.aload_n 1, 1) := by decide +kernel
theorem dX2_endMargins_22 : decode cX2_endMargins 22 = .ok (.aload_n 0, 1) := by decide +kernel
theorem dX2_endMargins_23 : decode cX2_endMargins 23 = .ok (.getfield 9, 3) := by decide +kernel
theorem dX2_endMargins_26 : decode cX2_endMargins 26 = .ok (.putfield 68, 3) := by decide +kernel
theorem dX2_endMargins_29 : decode cX2_endMargins 29 = .ok (.aload_n 1, 1) := by decide +kernel
theorem dX2_endMargins_30 : decode cX2_endMargins 30 = .ok (.iconst 1, 1) := by decide +kernel
theorem dX2_endMargins_31 : decode cX2_endMargins 31 = .ok (.putfield 73, 3) := by decide +kernel
theorem dX2_endMargins_34 : decode cX2_endMargins 34 = .ok (.aload_n 1, 1) := by decide +kernel
theorem dX2_endMargins_35 : decode cX2_endMargins 35 = .ok (.getfield 77, 3) := by decide +kernel
theorem dX2_endMargins_38 : decode cX2_endMargins 38 = .ok (.astore_n 1, 1) := by decide +kernel
theorem dX2_endMargins_39 : decode cX2_endMargins 39 = .ok (.goto (-22), 3) := by decide +kernel
theorem dX2_endMargins_42 : decode cX2_endMargins 42 = .ok (.aload_n 0, 1) := by decide +kernel
theorem dX2_endMargins_43 : decode cX2_endMargins 43 = .ok (.aconst_null, 1) := by decide +kernel
theorem dX2_endMargins_44 : decode cX2_endMargins 44 = .ok (.putfield 21, 3) := by decide +kernel
theorem dX2_endMargins_47 : decode cX2_endMargins 47 = .ok (.return_, 1) := by decide +kernel
theorem dX2_clearFloats_0 : decode cX2_clearFloats 0 = .ok (.iload_n 1, 1) := by decide +kernel
theorem dX2_clearFloats_1 : decode cX2_clearFloats 1 = .ok (.ifCond .ne 4, 3) := by decide +kernel
theorem dX2_clearFloats_4 : decode cX2_clearFloats 4 = .ok (.return_, 1) := by decide +kernel
theorem dX2_clearFloats_5 : decode cX2_clearFloats 5 = .ok (.iconst 0, 1) := by decide +kernel
theorem dX2_clearFloats_6 : decode cX2_clearFloats 6 = .ok (.istore_n 2, 1) := by decide +kernel
theorem dX2_clearFloats_7 : decode cX2_clearFloats 7 = .ok (.iconst 0, 1) := by decide +kernel
theorem dX2_clearFloats_8 : decode cX2_clearFloats 8 = .ok (.istore_n 3, 1) := by decide +kernel
theorem dX2_clearFloats_9 : decode cX2_clearFloats 9 = .ok (.aload_n 0, 1) := by decide +kernel
theorem dX2_clearFloats_10 : decode cX2_clearFloats 10 = .ok (.getfield 25, 3) := by decide +kernel
theorem dX2_clearFloats_13 : decode cX2_clearFloats 13 = .ok (.astore 4, 2) := by decide +kernel
theorem dX2_clearFloats_15 : decode cX2_clearFloats 15 = .ok (.aload 4, 2) := by decide +kernel
theorem dX2_clearFloats_17 : decode cX2_clearFloats 17 = .ok (.ifnull 60, 3) := by decide +kernel
theorem dX2_clearFloats_20 : decode cX2_clearFloats 20 = .ok (.iload_n 1, 1) := by decide +kernel
theorem dX2_clearFloats_21 : decode cX2_clearFloats 21 = .ok (.iconst 3, 1) := by decide +kernel
theorem dX2_clearFloats_22 : decode cX2_clearFloats 22 = .ok (.if_icmp .eq 21, 3) := by decide +kernel
theorem dX2_clearFloats_25 : decode cX2_clearFloats 25 = .ok (.aload 4, 2) := by decide +kernel
theorem dX2_clearFloats_27 : decode cX2_clearFloats 27 = .ok (.getfield 80, 3) := by decide +kernel
theorem dX2_clearFloats_30 : decode cX2_clearFloats 30 = .ok (.iload_n 1, 1) := by decide +kernel
theorem dX2_clearFloats_31 : decode cX2_clearFloats 31 = .ok (.iconst 1, 1) := by decide +kernel
theorem dX2_clearFloats_32 : decode cX2_clearFloats 32 = .ok (.if_icmp .ne 7, 3) := by decide +kernel
theorem dX2_clearFloats_35 : decode cX2_clearFloats 35 = .ok (.iconst 1, 1) := by decide +kernel
theorem dX2_clearFloats_36 : decode cX2_clearFloats 36 = .ok (.goto 4, 3) := by decide +kernel
theorem dX2_clearFloats_39 : decode cX2_clearFloats 39 = .ok (.iconst 0, 1) := by decide +kernel
theorem dX2_clearFloats_40 : decode cX2_clearFloats 40 = .ok (.if_icmp .ne 27, 3) := by decide +kernel
theorem dX2_clearFloats_43 : decode cX2_clearFloats 43 = .ok (.iload_n 2, 1) := by decide +kernel
theorem dX2_clearFloats_44 : decode cX2_clearFloats 44 = .ok (.ifCond .eq 15, 3) := by decide +kernel
theorem dX2_clearFloats_47 : decode cX2_clearFloats 47 = .ok (.iload_n 3, 1) := by decide +kernel
theorem dX2_clearFloats_48 : decode cX2_clearFloats 48 = .ok (.aload 4, 2) := by decide +kernel
theorem dX2_clearFloats_50 : decode cX2_clearFloats 50 = .ok (.getfield 85, 3) := by decide +kernel
theorem dX2_clearFloats_53 : decode cX2_clearFloats 53 = .ok (.invokestatic 52, 3) := by decide +kernel
theorem dX2_clearFloats_56 : decode cX2_clearFloats 56 = .ok (.goto 8, 3) := by decide +kernel
theorem dX2_clearFloats_59 : decode cX2_clearFloats 59 = .ok (.aload 4, 2) := by decide +kernel
theorem dX2_clearFloats_61 : decode cX2_clearFloats 61 = .ok (.getfield 85, 3) := by decide +kernel
theorem dX2_clearFloats_64 : decode cX2_clearFloats 64 = .ok (.istore_n 3, 1) := by decide +kernel
theorem dX2_clearFloats_65 : decode cX2_clearFloats 65 = .ok (.iconst 1, 1) := by decide +kernel
theorem dX2_clearFloats_66 : decode cX2_clearFloats 66 = .ok (.istore_n 2, 1) := by decide +kernel
theorem dX2_clearFloats_67 : decode cX2_clearFloats 67 = .ok (.aload 4, 2) := by decide +kernel
theorem dX2_clearFloats_69 : decode cX2_clearFloats 69 = .ok (.getfield 88, 3) := by decide +kernel
theorem dX2_clearFloats_72 : decode cX2_clearFloats 72 = .ok (.astore 4, 2) := by decide +kernel
theorem dX2_clearFloats_74 : decode cX2_clearFloats 74 = .ok (.goto (-59), 3) := by decide +kernel
theorem dX2_clearFloats_77 : decode cX2_clearFloats 77 = .ok (.iload_n 3, 1) := by decide +kernel
theorem dX2_clearFloats_78 : decode cX2_clearFloats 78 = .ok (.aload_n 0, 1) := by decide +kernel
theorem dX2_clearFloats_79 : decode cX2_clearFloats 79 = .ok (.invokevirtual 61, 3) := by decide +kernel
theorem dX2_clearFloats_82 : decode cX2_clearFloats 82 = .ok (.if_icmp .le 12, 3) := by decide +kernel
theorem dX2_clearFloats_85 : decode cX2_clearFloats 85 = .ok (.aload_n 0, 1) := by decide +kernel
theorem dX2_clearFloats_86 : decode cX2_clearFloats 86 = .ok (.iload_n 3, 1) := by decide +kernel
theorem dX2_clearFloats_87 : decode cX2_clearFloats 87 = .ok (.putfield 9, 3) := by decide +kernel
theorem dX2_clearFloats_90 : decode cX2_clearFloats 90 = .ok (.aload_n 0, 1) := by decide +kernel
theorem dX2_clearFloats_91 : decode cX2_clearFloats 91 = .ok (.invokevirtual 65, 3) := by decide +kernel
theorem dX2_clearFloats_94 : decode cX2_clearFloats 94 = .ok (.return_, 1) := by decide +kernel
theorem dX2_reachTo_0 : decode cX2_reachTo 0 = .ok (.aload_n 0, 1) := by decide +kernel
theorem dX2_reachTo_1 : decode cX2_reachTo 1 = .ok (.aload_n 0, 1) := by decide +kernel
theorem dX2_reachTo_2 : decode cX2_reachTo 2 = .ok (.getfield 33, 3) := by decide +kernel
theorem dX2_reachTo_5 : decode cX2_reachTo 5 = .ok (.iload_n 1, 1) := by decide +kernel
theorem dX2_reachTo_6 : decode cX2_reachTo 6 = .ok (.invokestatic 52, 3) := by decide +kernel
theorem dX2_reachTo_9 : decode cX2_reachTo 9 = .ok (.putfield 33, 3) := by decide +kernel
theorem dX2_reachTo_12 : decode cX2_reachTo 12 = .ok (.return_, 1) := by decide +kernel
theorem dX2_look_0 : decode cX2_look 0 = .ok (.iload_n 2, 1) := by decide +kernel
theorem dX2_look_1 : decode cX2_look 1 = .ok (.iload_n 1, 1) := by decide +kernel
theorem dX2_look_2 : decode cX2_look 2 = .ok (.iconst 1, 1) := by decide +kernel
theorem dX2_look_3 : decode cX2_look 3 = .ok (.iadd, 1) := by decide +kernel
theorem dX2_look_4 : decode cX2_look 4 = .ok (.invokestatic 52, 3) := by decide +kernel
theorem dX2_look_7 : decode cX2_look 7 = .ok (.istore_n 3, 1) := by decide +kernel
theorem dX2_look_8 : decode cX2_look 8 = .ok (.aload_n 0, 1) := by decide +kernel
theorem dX2_look_9 : decode cX2_look 9 = .ok (.aload_n 0, 1) := by decide +kernel
theorem dX2_look_10 : decode cX2_look 10 = .ok (.getfield 91, 3) := by decide +kernel
theorem dX2_look_13 : decode cX2_look 13 = .ok (.putfield 94, 3) := by decide +kernel
theorem dX2_look_16 : decode cX2_look 16 = .ok (.aload_n 0, 1) := by decide +kernel
theorem dX2_look_17 : decode cX2_look 17 = .ok (.aload_n 0, 1) := by decide +kernel
theorem dX2_look_18 : decode cX2_look 18 = .ok (.getfield 91, 3) := by decide +kernel
theorem dX2_look_21 : decode cX2_look 21 = .ok (.aload_n 0, 1) := by decide +kernel
theorem dX2_look_22 : decode cX2_look 22 = .ok (.getfield 97, 3) := by decide +kernel
theorem dX2_look_25 : decode cX2_look 25 = .ok (.iadd, 1) := by decide +kernel
theorem dX2_look_26 : decode cX2_look 26 = .ok (.putfield 100, 3) := by decide +kernel
theorem dX2_look_29 : decode cX2_look 29 = .ok (.aload_n 0, 1) := by decide +kernel
theorem dX2_look_30 : decode cX2_look 30 = .ok (.iconst 0, 1) := by decide +kernel
theorem dX2_look_31 : decode cX2_look 31 = .ok (.putfield 103, 3) := by decide +kernel
theorem dX2_look_34 : decode cX2_look 34 = .ok (.aload_n 0, 1) := by decide +kernel
theorem dX2_look_35 : decode cX2_look 35 = .ok (.getfield 25, 3) := by decide +kernel
theorem dX2_look_38 : decode cX2_look 38 = .ok (.astore 4, 2) := by decide +kernel
theorem dX2_look_40 : decode cX2_look 40 = .ok (.aload 4, 2) := by decide +kernel
theorem dX2_look_42 : decode cX2_look 42 = .ok (.ifnull 79, 3) := by decide +kernel
theorem dX2_look_45 : decode cX2_look 45 = .ok (.aload 4, 2) := by decide +kernel
theorem dX2_look_47 : decode cX2_look 47 = .ok (.aload_n 0, 1) := by decide +kernel
theorem dX2_look_48 : decode cX2_look 48 = .ok (.getfield 91, 3) := by decide +kernel
theorem dX2_look_51 : decode cX2_look 51 = .ok (.aload_n 0, 1) := by decide +kernel
theorem dX2_look_52 : decode cX2_look 52 = .ok (.getfield 97, 3) := by decide +kernel
theorem dX2_look_55 : decode cX2_look 55 = .ok (.iload_n 1, 1) := by decide +kernel
theorem dX2_look_56 : decode cX2_look 56 = .ok (.iload_n 3, 1) := by decide +kernel
theorem dX2_look_57 : decode cX2_look 57 = .ok (.invokevirtual 106, 3) := by decide +kernel
theorem dX2_look_60 : decode cX2_look 60 = .ok (.ifCond .eq 51, 3) := by decide +kernel
theorem dX2_look_63 : decode cX2_look 63 = .ok (.aload_n 0, 1) := by decide +kernel
theorem dX2_look_64 : decode cX2_look 64 = .ok (.iconst 1, 1) := by decide +kernel
theorem dX2_look_65 : decode cX2_look 65 = .ok (.putfield 103, 3) := by decide +kernel
theorem dX2_look_68 : decode cX2_look 68 = .ok (.aload 4, 2) := by decide +kernel
theorem dX2_look_70 : decode cX2_look 70 = .ok (.getfield 80, 3) := by decide +kernel
theorem dX2_look_73 : decode cX2_look 73 = .ok (.ifCond .eq 22, 3) := by decide +kernel
theorem dX2_look_76 : decode cX2_look 76 = .ok (.aload_n 0, 1) := by decide +kernel
theorem dX2_look_77 : decode cX2_look 77 = .ok (.aload_n 0, 1) := by decide +kernel
theorem dX2_look_78 : decode cX2_look 78 = .ok (.getfield 94, 3) := by decide +kernel
theorem dX2_look_81 : decode cX2_look 81 = .ok (.aload 4, 2) := by decide +kernel
theorem dX2_look_83 : decode cX2_look 83 = .ok (.getfield 110, 3) := by decide +kernel
theorem dX2_look_86 : decode cX2_look 86 = .ok (.invokestatic 52, 3) := by decide +kernel
theorem dX2_look_89 : decode cX2_look 89 = .ok (.putfield 94, 3) := by decide +kernel
theorem dX2_look_92 : decode cX2_look 92 = .ok (.goto 19, 3) := by decide +kernel
theorem dX2_look_95 : decode cX2_look 95 = .ok (.aload_n 0, 1) := by decide +kernel
theorem dX2_look_96 : decode cX2_look 96 = .ok (.aload_n 0, 1) := by decide +kernel
theorem dX2_look_97 : decode cX2_look 97 = .ok (.getfield 100, 3) := by decide +kernel
theorem dX2_look_100 : decode cX2_look 100 = .ok (.aload 4, 2) := by decide +kernel
theorem dX2_look_102 : decode cX2_look 102 = .ok (.getfield 113, 3) := by decide +kernel
theorem dX2_look_105 : decode cX2_look 105 = .ok (.invokestatic 58, 3) := by decide +kernel
theorem dX2_look_108 : decode cX2_look 108 = .ok (.putfield 100, 3) := by decide +kernel
theorem dX2_look_111 : decode cX2_look 111 = .ok (.aload 4, 2) := by decide +kernel
theorem dX2_look_113 : decode cX2_look 113 = .ok (.getfield 88, 3) := by decide +kernel
theorem dX2_look_116 : decode cX2_look 116 = .ok (.astore 4, 2) := by decide +kernel
theorem dX2_look_118 : decode cX2_look 118 = .ok (.goto (-78), 3) := by decide +kernel
theorem dX2_look_121 : decode cX2_look 121 = .ok (.return_, 1) := by decide +kernel
theorem dX2_band_0 : decode cX2_band 0 = .ok (.aload_n 0, 1) := by decide +kernel
theorem dX2_band_1 : decode cX2_band 1 = .ok (.getfield 100, 3) := by decide +kernel
theorem dX2_band_4 : decode cX2_band 4 = .ok (.aload_n 0, 1) := by decide +kernel
theorem dX2_band_5 : decode cX2_band 5 = .ok (.getfield 94, 3) := by decide +kernel
theorem dX2_band_8 : decode cX2_band 8 = .ok (.isub, 1) := by decide +kernel
theorem dX2_band_9 : decode cX2_band 9 = .ok (.ireturn, 1) := by decide +kernel
theorem dX2_nextOffset_0 : decode cX2_nextOffset 0 = .ok (.aload_n 0, 1) := by decide +kernel
theorem dX2_nextOffset_1 : decode cX2_nextOffset 1 = .ok (.getfield 40, 3) := by decide +kernel
theorem dX2_nextOffset_4 : decode cX2_nextOffset 4 = .ok (.ifCond .ne 7, 3) := by decide +kernel
theorem dX2_nextOffset_7 : decode cX2_nextOffset 7 = .ok (.iconst 0, 1) := by decide +kernel
theorem dX2_nextOffset_8 : decode cX2_nextOffset 8 = .ok (.goto 9, 3) := by decide +kernel
theorem dX2_nextOffset_11 : decode cX2_nextOffset 11 = .ok (.aload_n 0, 1) := by decide +kernel
theorem dX2_nextOffset_12 : decode cX2_nextOffset 12 = .ok (.getfield 43, 3) := by decide +kernel
theorem dX2_nextOffset_15 : decode cX2_nextOffset 15 = .ok (.iconst 1, 1) := by decide +kernel
theorem dX2_nextOffset_16 : decode cX2_nextOffset 16 = .ok (.iadd, 1) := by decide +kernel
theorem dX2_nextOffset_17 : decode cX2_nextOffset 17 = .ok (.ireturn, 1) := by decide +kernel
theorem dX2_fits_0 : decode cX2_fits 0 = .ok (.aload_n 0, 1) := by decide +kernel
theorem dX2_fits_1 : decode cX2_fits 1 = .ok (.invokevirtual 133, 3) := by decide +kernel
theorem dX2_fits_4 : decode cX2_fits 4 = .ok (.iload_n 1, 1) := by decide +kernel
theorem dX2_fits_5 : decode cX2_fits 5 = .ok (.iadd, 1) := by decide +kernel
theorem dX2_fits_6 : decode cX2_fits 6 = .ok (.aload_n 0, 1) := by decide +kernel
theorem dX2_fits_7 : decode cX2_fits 7 = .ok (.invokevirtual 118, 3) := by decide +kernel
theorem dX2_fits_10 : decode cX2_fits 10 = .ok (.if_icmp .gt 7, 3) := by decide +kernel
theorem dX2_fits_13 : decode cX2_fits 13 = .ok (.iconst 1, 1) := by decide +kernel
theorem dX2_fits_14 : decode cX2_fits 14 = .ok (.goto 4, 3) := by decide +kernel
theorem dX2_fits_17 : decode cX2_fits 17 = .ok (.iconst 0, 1) := by decide +kernel
theorem dX2_fits_18 : decode cX2_fits 18 = .ok (.ireturn, 1) := by decide +kernel
theorem dX2_contentHeight_0 : decode cX2_contentHeight 0 = .ok (.iconst 0, 1) := by decide +kernel
theorem dX2_contentHeight_1 : decode cX2_contentHeight 1 = .ok (.aload_n 0, 1) := by decide +kernel
theorem dX2_contentHeight_2 : decode cX2_contentHeight 2 = .ok (.getfield 9, 3) := by decide +kernel
theorem dX2_contentHeight_5 : decode cX2_contentHeight 5 = .ok (.invokestatic 52, 3) := by decide +kernel
theorem dX2_contentHeight_8 : decode cX2_contentHeight 8 = .ok (.istore_n 1, 1) := by decide +kernel
theorem dX2_contentHeight_9 : decode cX2_contentHeight 9 = .ok (.aload_n 0, 1) := by decide +kernel
theorem dX2_contentHeight_10 : decode cX2_contentHeight 10 = .ok (.getfield 25, 3) := by decide +kernel
theorem dX2_contentHeight_13 : decode cX2_contentHeight 13 = .ok (.astore_n 2, 1) := by decide +kernel
theorem dX2_contentHeight_14 : decode cX2_contentHeight 14 = .ok (.aload_n 2, 1) := by decide +kernel
theorem dX2_contentHeight_15 : decode cX2_contentHeight 15 = .ok (.ifnull 20, 3) := by decide +kernel
theorem dX2_contentHeight_18 : decode cX2_contentHeight 18 = .ok (.iload_n 1, 1) := by decide +kernel
theorem dX2_contentHeight_19 : decode cX2_contentHeight 19 = .ok (.aload_n 2, 1) := by decide +kernel
theorem dX2_contentHeight_20 : decode cX2_contentHeight 20 = .ok (.getfield 85, 3) := by decide +kernel
theorem dX2_contentHeight_23 : decode cX2_contentHeight 23 = .ok (.invokestatic 52, 3) := by decide +kernel
theorem dX2_contentHeight_26 : decode cX2_contentHeight 26 = .ok (.istore_n 1, 1) := by decide +kernel
theorem dX2_contentHeight_27 : decode cX2_contentHeight 27 = .ok (.aload_n 2, 1) := by decide +kernel
theorem dX2_contentHeight_28 : decode cX2_contentHeight 28 = .ok (.getfield 88, 3) := by decide +kernel
theorem dX2_contentHeight_31 : decode cX2_contentHeight 31 = .ok (.astore_n 2, 1) := by decide +kernel
theorem dX2_contentHeight_32 : decode cX2_contentHeight 32 = .ok (.goto (-18), 3) := by decide +kernel
theorem dX2_contentHeight_35 : decode cX2_contentHeight 35 = .ok (.iload_n 1, 1) := by decide +kernel
theorem dX2_contentHeight_36 : decode cX2_contentHeight 36 = .ok (.ireturn, 1) := by decide +kernel
theorem dX3_isInLines_0 : decode cX3_isInLines 0 = .ok (.aload_n 0, 1) := by decide +kernel
theorem dX3_isInLines_1 : decode cX3_isInLines 1 = .ok (.getstatic 25, 3) := by decide +kernel
theorem dX3_isInLines_4 : decode cX3_isInLines 4 = .ok (.if_acmp .eq 17, 3) := by decide +kernel
theorem dX3_isInLines_7 : decode cX3_isInLines 7 = .ok (.aload_n 0, 1) := by decide +kernel
theorem dX3_isInLines_8 : decode cX3_isInLines 8 = .ok (.getstatic 7, 3) := by decide +kernel
theorem dX3_isInLines_11 : decode cX3_isInLines 11 = .ok (.if_acmp .eq 10, 3) := by decide +kernel
theorem dX3_isInLines_14 : decode cX3_isInLines 14 = .ok (.aload_n 0, 1) := by decide +kernel
theorem dX3_isInLines_15 : decode cX3_isInLines 15 = .ok (.getstatic 10, 3) := by decide +kernel
theorem dX3_isInLines_18 : decode cX3_isInLines 18 = .ok (.if_acmp .ne 7, 3) := by decide +kernel
theorem dX3_isInLines_21 : decode cX3_isInLines 21 = .ok (.iconst 1, 1) := by decide +kernel
theorem dX3_isInLines_22 : decode cX3_isInLines 22 = .ok (.goto 4, 3) := by decide +kernel
theorem dX3_isInLines_25 : decode cX3_isInLines 25 = .ok (.iconst 0, 1) := by decide +kernel
theorem dX3_isInLines_26 : decode cX3_isInLines 26 = .ok (.ireturn, 1) := by decide +kernel
theorem dX4_init_0 : decode cX4_init 0 = .ok (.aload_n 0, 1) := by decide +kernel
theorem dX4_init_1 : decode cX4_init 1 = .ok (.invokespecial 3, 3) := by decide +kernel
theorem dX4_init_4 : decode cX4_init 4 = .ok (.aload_n 0, 1) := by decide +kernel
theorem dX4_init_5 : decode cX4_init 5 = .ok (.iload_n 1, 1) := by decide +kernel
theorem dX4_init_6 : decode cX4_init 6 = .ok (.putfield 9, 3) := by decide +kernel
theorem dX4_init_9 : decode cX4_init 9 = .ok (.aload_n 0, 1) := by decide +kernel
theorem dX4_init_10 : decode cX4_init 10 = .ok (.aload_n 2, 1) := by decide +kernel
theorem dX4_init_11 : decode cX4_init 11 = .ok (.putfield 15, 3) := by decide +kernel
theorem dX4_init_14 : decode cX4_init 14 = .ok (.aload_n 0, 1) := by decide +kernel
theorem dX4_init_15 : decode cX4_init 15 = .ok (.bipush 21, 2) := by decide +kernel
theorem dX4_init_17 : decode cX4_init 17 = .ok (.anewarray 19, 3) := by decide +kernel
theorem dX4_init_20 : decode cX4_init 20 = .ok (.putfield 21, 3) := by decide +kernel
theorem dX4_init_23 : decode cX4_init 23 = .ok (.iconst 0, 1) := by decide +kernel
theorem dX4_init_24 : decode cX4_init 24 = .ok (.istore_n 3, 1) := by decide +kernel
theorem dX4_init_25 : decode cX4_init 25 = .ok (.iload_n 3, 1) := by decide +kernel
theorem dX4_init_26 : decode cX4_init 26 = .ok (.bipush 20, 2) := by decide +kernel
theorem dX4_init_28 : decode cX4_init 28 = .ok (.if_icmp .gt 22, 3) := by decide +kernel
theorem dX4_init_31 : decode cX4_init 31 = .ok (.aload_n 0, 1) := by decide +kernel
theorem dX4_init_32 : decode cX4_init 32 = .ok (.getfield 21, 3) := by decide +kernel
theorem dX4_init_35 : decode cX4_init 35 = .ok (.iload_n 3, 1) := by decide +kernel
theorem dX4_init_36 : decode cX4_init 36 = .ok (.new 19, 3) := by decide +kernel
theorem dX4_init_39 : decode cX4_init 39 = .ok (.dup, 1) := by decide +kernel
theorem dX4_init_40 : decode cX4_init 40 = .ok (.invokespecial 25, 3) := by decide +kernel
theorem dX4_init_43 : decode cX4_init 43 = .ok (.aastore, 1) := by decide +kernel
theorem dX4_init_44 : decode cX4_init 44 = .ok (.iinc 3 1, 3) := by decide +kernel
theorem dX4_init_47 : decode cX4_init 47 = .ok (.goto (-22), 3) := by decide +kernel
theorem dX4_init_50 : decode cX4_init 50 = .ok (.return_, 1) := by decide +kernel
theorem dX4_placeOf_0 : decode cX4_placeOf 0 = .ok (.aload_n 0, 1) := by decide +kernel
theorem dX4_placeOf_1 : decode cX4_placeOf 1 = .ok (.getfield 9, 3) := by decide +kernel
theorem dX4_placeOf_4 : decode cX4_placeOf 4 = .ok (.ifCond .eq 10, 3) := by decide +kernel
theorem dX4_placeOf_7 : decode cX4_placeOf 7 = .ok (.aload_n 1, 1) := by decide +kernel
theorem dX4_placeOf_8 : decode cX4_placeOf 8 = .ok (.getfield 26, 3) := by decide +kernel
theorem dX4_placeOf_11 : decode cX4_placeOf 11 = .ok (.goto 7, 3) := by decide +kernel
theorem dX4_placeOf_14 : decode cX4_placeOf 14 = .ok (.aload_n 1, 1) := by decide +kernel
theorem dX4_placeOf_15 : decode cX4_placeOf 15 = .ok (.getfield 32, 3) := by decide +kernel
theorem dX4_placeOf_18 : decode cX4_placeOf 18 = .ok (.areturn, 1) := by decide +kernel
theorem dX4_forgetAll_0 : decode cX4_forgetAll 0 = .ok (.aload_n 1, 1) := by decide +kernel
theorem dX4_forgetAll_1 : decode cX4_forgetAll 1 = .ok (.astore_n 2, 1) := by decide +kernel
theorem dX4_forgetAll_2 : decode cX4_forgetAll 2 = .ok (.aload_n 2, 1) := by decide +kernel
theorem dX4_forgetAll_3 : decode cX4_forgetAll 3 = .ok (.ifnull 22, 3) := by decide +kernel
theorem dX4_forgetAll_6 : decode cX4_forgetAll 6 = .ok (.aload_n 0, 1) := by decide +kernel
theorem dX4_forgetAll_7 : decode cX4_forgetAll 7 = .ok (.aload_n 2, 1) := by decide +kernel
theorem dX4_forgetAll_8 : decode cX4_forgetAll 8 = .ok (.invokevirtual 35, 3) := by decide +kernel
theorem dX4_forgetAll_11 : decode cX4_forgetAll 11 = .ok (.iconst (-1), 1) := by decide +kernel
theorem dX4_forgetAll_12 : decode cX4_forgetAll 12 = .ok (.putfield 39, 3) := by decide +kernel
theorem dX4_forgetAll_15 : decode cX4_forgetAll 15 = .ok (.aload_n 2, 1) := by decide +kernel
theorem dX4_forgetAll_16 : decode cX4_forgetAll 16 = .ok (.aload_n 1, 1) := by decide +kernel
theorem dX4_forgetAll_17 : decode cX4_forgetAll 17 = .ok (.iconst 1, 1) := by decide +kernel
theorem dX4_forgetAll_18 : decode cX4_forgetAll 18 = .ok (.invokestatic 45, 3) := by decide +kernel
theorem dX4_forgetAll_21 : decode cX4_forgetAll 21 = .ok (.astore_n 2, 1) := by decide +kernel
theorem dX4_forgetAll_22 : decode cX4_forgetAll 22 = .ok (.goto (-20), 3) := by decide +kernel
theorem dX4_forgetAll_25 : decode cX4_forgetAll 25 = .ok (.return_, 1) := by decide +kernel
theorem dX4_layAll_0 : decode cX4_layAll 0 = .ok (.aload_n 0, 1) := by decide +kernel
theorem dX4_layAll_1 : decode cX4_layAll 1 = .ok (.iload_n 3, 1) := by decide +kernel
theorem dX4_layAll_2 : decode cX4_layAll 2 = .ok (.putfield 49, 3) := by decide +kernel
theorem dX4_layAll_5 : decode cX4_layAll 5 = .ok (.aload_n 0, 1) := by decide +kernel
theorem dX4_layAll_6 : decode cX4_layAll 6 = .ok (.iconst 0, 1) := by decide +kernel
theorem dX4_layAll_7 : decode cX4_layAll 7 = .ok (.putfield 52, 3) := by decide +kernel
theorem dX4_layAll_10 : decode cX4_layAll 10 = .ok (.aload_n 0, 1) := by decide +kernel
theorem dX4_layAll_11 : decode cX4_layAll 11 = .ok (.aload_n 1, 1) := by decide +kernel
theorem dX4_layAll_12 : decode cX4_layAll 12 = .ok (.iload_n 2, 1) := by decide +kernel
theorem dX4_layAll_13 : decode cX4_layAll 13 = .ok (.iconst (-1), 1) := by decide +kernel
theorem dX4_layAll_14 : decode cX4_layAll 14 = .ok (.invokevirtual 55, 3) := by decide +kernel
theorem dX4_layAll_17 : decode cX4_layAll 17 = .ok (.aload_n 1, 1) := by decide +kernel
theorem dX4_layAll_18 : decode cX4_layAll 18 = .ok (.astore 4, 2) := by decide +kernel
theorem dX4_layAll_20 : decode cX4_layAll 20 = .ok (.aload 4, 2) := by decide +kernel
theorem dX4_layAll_22 : decode cX4_layAll 22 = .ok (.ifnull 32, 3) := by decide +kernel
theorem dX4_layAll_25 : decode cX4_layAll 25 = .ok (.aload 4, 2) := by decide +kernel
theorem dX4_layAll_27 : decode cX4_layAll 27 = .ok (.getfield 59, 3) := by decide +kernel
theorem dX4_layAll_30 : decode cX4_layAll 30 = .ok (.getstatic 63, 3) := by decide +kernel
theorem dX4_layAll_33 : decode cX4_layAll 33 = .ok (.if_acmp .ne 9, 3) := by decide +kernel
theorem dX4_layAll_36 : decode cX4_layAll 36 = .ok (.aload_n 0, 1) := by decide +kernel
theorem dX4_layAll_37 : decode cX4_layAll 37 = .ok (.aload 4, 2) := by decide +kernel
theorem dX4_layAll_39 : decode cX4_layAll 39 = .ok (.invokevirtual 68, 3) := by decide +kernel
theorem dX4_layAll_42 : decode cX4_layAll 42 = .ok (.aload 4, 2) := by decide +kernel
theorem dX4_layAll_44 : decode cX4_layAll 44 = .ok (.aload_n 1, 1) := by decide +kernel
theorem dX4_layAll_45 : decode cX4_layAll 45 = .ok (.iconst 1, 1) := by decide +kernel
theorem dX4_layAll_46 : decode cX4_layAll 46 = .ok (.invokestatic 45, 3) := by decide +kernel
theorem dX4_layAll_49 : decode cX4_layAll 49 = .ok (.astore 4, 2) := by decide +kernel
theorem dX4_layAll_51 : decode cX4_layAll 51 = .ok (.goto (-31), 3) := by decide +kernel
theorem dX4_layAll_54 : decode cX4_layAll 54 = .ok (.aload_n 1, 1) := by decide +kernel
theorem dX4_layAll_55 : decode cX4_layAll 55 = .ok (.astore 4, 2) := by decide +kernel
theorem dX4_layAll_57 : decode cX4_layAll 57 = .ok (.aload 4, 2) := by decide +kernel
theorem dX4_layAll_59 : decode cX4_layAll 59 = .ok (.ifnull 21, 3) := by decide +kernel
theorem dX4_layAll_62 : decode cX4_layAll 62 = .ok (.aload_n 0, 1) := by decide +kernel
theorem dX4_layAll_63 : decode cX4_layAll 63 = .ok (.aload 4, 2) := by decide +kernel
theorem dX4_layAll_65 : decode cX4_layAll 65 = .ok (.invokevirtual 72, 3) := by decide +kernel
theorem dX4_layAll_68 : decode cX4_layAll 68 = .ok (.aload 4, 2) := by decide +kernel
theorem dX4_layAll_70 : decode cX4_layAll 70 = .ok (.aload_n 1, 1) := by decide +kernel
theorem dX4_layAll_71 : decode cX4_layAll 71 = .ok (.iconst 1, 1) := by decide +kernel
theorem dX4_layAll_72 : decode cX4_layAll 72 = .ok (.invokestatic 45, 3) := by decide +kernel
theorem dX4_layAll_75 : decode cX4_layAll 75 = .ok (.astore 4, 2) := by decide +kernel
theorem dX4_layAll_77 : decode cX4_layAll 77 = .ok (.goto (-20), 3) := by decide +kernel
theorem dX4_layAll_80 : decode cX4_layAll 80 = .ok (.aload_n 0, 1) := by decide +kernel
theorem dX4_layAll_81 : decode cX4_layAll 81 = .ok (.getfield 52, 3) := by decide +kernel
theorem dX4_layAll_84 : decode cX4_layAll 84 = .ok (.ireturn, 1) := by decide +kernel
theorem dX4_settle_0 : decode cX4_settle 0 = .ok (.aload_n 0, 1) := by decide +kernel
theorem dX4_settle_1 : decode cX4_settle 1 = .ok (.aload_n 1, 1) := by decide +kernel
theorem dX4_settle_2 : decode cX4_settle 2 = .ok (.invokevirtual 35, 3) := by decide +kernel
theorem dX4_settle_5 : decode cX4_settle 5 = .ok (.astore_n 2, 1) := by decide +kernel
theorem dX4_settle_6 : decode cX4_settle 6 = .ok (.aload_n 1, 1) := by decide +kernel
theorem dX4_settle_7 : decode cX4_settle 7 = .ok (.getfield 75, 3) := by decide +kernel
theorem dX4_settle_10 : decode cX4_settle 10 = .ok (.astore_n 3, 1) := by decide +kernel
theorem dX4_settle_11 : decode cX4_settle 11 = .ok (.aload_n 3, 1) := by decide +kernel
theorem dX4_settle_12 : decode cX4_settle 12 = .ok (.ifnonnull 26, 3) := by decide +kernel
theorem dX4_settle_15 : decode cX4_settle 15 = .ok (.aload_n 2, 1) := by decide +kernel
theorem dX4_settle_16 : decode cX4_settle 16 = .ok (.lconst 0, 1) := by decide +kernel
theorem dX4_settle_17 : decode cX4_settle 17 = .ok (.putfield 105, 3) := by decide +kernel
theorem dX4_settle_20 : decode cX4_settle 20 = .ok (.aload_n 2, 1) := by decide +kernel
theorem dX4_settle_21 : decode cX4_settle 21 = .ok (.lconst 0, 1) := by decide +kernel
theorem dX4_settle_22 : decode cX4_settle 22 = .ok (.putfield 109, 3) := by decide +kernel
theorem dX4_settle_25 : decode cX4_settle 25 = .ok (.aload_n 2, 1) := by decide +kernel
theorem dX4_settle_26 : decode cX4_settle 26 = .ok (.lconst 0, 1) := by decide +kernel
theorem dX4_settle_27 : decode cX4_settle 27 = .ok (.putfield 112, 3) := by decide +kernel
theorem dX4_settle_30 : decode cX4_settle 30 = .ok (.aload_n 2, 1) := by decide +kernel
theorem dX4_settle_31 : decode cX4_settle 31 = .ok (.lconst 0, 1) := by decide +kernel
theorem dX4_settle_32 : decode cX4_settle 32 = .ok (.putfield 115, 3) := by decide +kernel
theorem dX4_settle_35 : decode cX4_settle 35 = .ok (.goto 45, 3) := by decide +kernel
theorem dX4_settle_38 : decode cX4_settle 38 = .ok (.aload_n 1, 1) := by decide +kernel
theorem dX4_settle_39 : decode cX4_settle 39 = .ok (.getfield 59, 3) := by decide +kernel
theorem dX4_settle_42 : decode cX4_settle 42 = .ok (.getstatic 63, 3) := by decide +kernel
theorem dX4_settle_45 : decode cX4_settle 45 = .ok (.if_acmp .ne 17, 3) := by decide +kernel
theorem dX4_settle_48 : decode cX4_settle 48 = .ok (.aload_n 0, 1) := by decide +kernel
theorem dX4_settle_49 : decode cX4_settle 49 = .ok (.aload_n 1, 1) := by decide +kernel
theorem dX4_settle_50 : decode cX4_settle 50 = .ok (.aload_n 2, 1) := by decide +kernel
theorem dX4_settle_51 : decode cX4_settle 51 = .ok (.aload_n 0, 1) := by decide +kernel
theorem dX4_settle_52 : decode cX4_settle 52 = .ok (.aload_n 3, 1) := by decide +kernel
theorem dX4_settle_53 : decode cX4_settle 53 = .ok (.invokevirtual 35, 3) := by decide +kernel
theorem dX4_settle_56 : decode cX4_settle 56 = .ok (.invokevirtual 118, 3) := by decide +kernel
theorem dX4_settle_59 : decode cX4_settle 59 = .ok (.goto 21, 3) := by decide +kernel
theorem dX4_settle_62 : decode cX4_settle 62 = .ok (.aload_n 1, 1) := by decide +kernel
theorem dX4_settle_63 : decode cX4_settle 63 = .ok (.invokevirtual 122, 3) := by decide +kernel
theorem dX4_settle_66 : decode cX4_settle 66 = .ok (.ifCond .ne 14, 3) := by decide +kernel
theorem dX4_settle_69 : decode cX4_settle 69 = .ok (.aload_n 0, 1) := by decide +kernel
theorem dX4_settle_70 : decode cX4_settle 70 = .ok (.aload_n 1, 1) := by decide +kernel
theorem dX4_settle_71 : decode cX4_settle 71 = .ok (.aload_n 2, 1) := by decide +kernel
theorem dX4_settle_72 : decode cX4_settle 72 = .ok (.aload_n 0, 1) := by decide +kernel
theorem dX4_settle_73 : decode cX4_settle 73 = .ok (.aload_n 3, 1) := by decide +kernel
theorem dX4_settle_74 : decode cX4_settle 74 = .ok (.invokevirtual 35, 3) := by decide +kernel
theorem dX4_settle_77 : decode cX4_settle 77 = .ok (.invokevirtual 125, 3) := by decide +kernel
theorem dX4_settle_80 : decode cX4_settle 80 = .ok (.return_, 1) := by decide +kernel
theorem dX4_settleInFlow_0 : decode cX4_settleInFlow 0 = .ok (.aload_n 1, 1) := by decide +kernel
theorem dX4_settleInFlow_1 : decode cX4_settleInFlow 1 = .ok (.getfield 128, 3) := by decide +kernel
theorem dX4_settleInFlow_4 : decode cX4_settleInFlow 4 = .ok (.iconst 3, 1) := by decide +kernel
theorem dX4_settleInFlow_5 : decode cX4_settleInFlow 5 = .ok (.iaload, 1) := by decide +kernel
theorem dX4_settleInFlow_6 : decode cX4_settleInFlow 6 = .ok (.iconst 1, 1) := by decide +kernel
theorem dX4_settleInFlow_7 : decode cX4_settleInFlow 7 = .ok (.if_icmp .ne 7, 3) := by decide +kernel
theorem dX4_settleInFlow_10 : decode cX4_settleInFlow 10 = .ok (.iconst 1, 1) := by decide +kernel
theorem dX4_settleInFlow_11 : decode cX4_settleInFlow 11 = .ok (.goto 4, 3) := by decide +kernel
theorem dX4_settleInFlow_14 : decode cX4_settleInFlow 14 = .ok (.iconst 0, 1) := by decide +kernel
theorem dX4_settleInFlow_15 : decode cX4_settleInFlow 15 = .ok (.istore 4, 2) := by decide +kernel
theorem dX4_settleInFlow_17 : decode cX4_settleInFlow 17 = .ok (.aload_n 3, 1) := by decide +kernel
theorem dX4_settleInFlow_18 : decode cX4_settleInFlow 18 = .ok (.getfield 112, 3) := by decide +kernel
theorem dX4_settleInFlow_21 : decode cX4_settleInFlow 21 = .ok (.iload 4, 2) := by decide +kernel
theorem dX4_settleInFlow_23 : decode cX4_settleInFlow 23 = .ok (.ifCond .eq 16, 3) := by decide +kernel
theorem dX4_settleInFlow_26 : decode cX4_settleInFlow 26 = .ok (.aload_n 1, 1) := by decide +kernel
theorem dX4_settleInFlow_27 : decode cX4_settleInFlow 27 = .ok (.getfield 128, 3) := by decide +kernel
theorem dX4_settleInFlow_30 : decode cX4_settleInFlow 30 = .ok (.bipush 18, 2) := by decide +kernel
theorem dX4_settleInFlow_32 : decode cX4_settleInFlow 32 = .ok (.iaload, 1) := by decide +kernel
theorem dX4_settleInFlow_33 : decode cX4_settleInFlow 33 = .ok (.invokestatic 132, 3) := by decide +kernel
theorem dX4_settleInFlow_36 : decode cX4_settleInFlow 36 = .ok (.goto 4, 3) := by decide +kernel
theorem dX4_settleInFlow_39 : decode cX4_settleInFlow 39 = .ok (.iconst 0, 1) := by decide +kernel
theorem dX4_settleInFlow_40 : decode cX4_settleInFlow 40 = .ok (.i2l, 1) := by decide +kernel
theorem dX4_settleInFlow_41 : decode cX4_settleInFlow 41 = .ok (.ladd, 1) := by decide +kernel
theorem dX4_settleInFlow_42 : decode cX4_settleInFlow 42 = .ok (.lstore 5, 2) := by decide +kernel
theorem dX4_settleInFlow_44 : decode cX4_settleInFlow 44 = .ok (.aload_n 3, 1) := by decide +kernel
theorem dX4_settleInFlow_45 : decode cX4_settleInFlow 45 = .ok (.getfield 115, 3) := by decide +kernel
theorem dX4_settleInFlow_48 : decode cX4_settleInFlow 48 = .ok (.iload 4, 2) := by decide +kernel
theorem dX4_settleInFlow_50 : decode cX4_settleInFlow 50 = .ok (.ifCond .eq 16, 3) := by decide +kernel
theorem dX4_settleInFlow_53 : decode cX4_settleInFlow 53 = .ok (.aload_n 1, 1) := by decide +kernel
theorem dX4_settleInFlow_54 : decode cX4_settleInFlow 54 = .ok (.getfield 128, 3) := by decide +kernel
theorem dX4_settleInFlow_57 : decode cX4_settleInFlow 57 = .ok (.bipush 19, 2) := by decide +kernel
theorem dX4_settleInFlow_59 : decode cX4_settleInFlow 59 = .ok (.iaload, 1) := by decide +kernel
theorem dX4_settleInFlow_60 : decode cX4_settleInFlow 60 = .ok (.invokestatic 132, 3) := by decide +kernel
theorem dX4_settleInFlow_63 : decode cX4_settleInFlow 63 = .ok (.goto 4, 3) := by decide +kernel
theorem dX4_settleInFlow_66 : decode cX4_settleInFlow 66 = .ok (.iconst 0, 1) := by decide +kernel
theorem dX4_settleInFlow_67 : decode cX4_settleInFlow 67 = .ok (.i2l, 1) := by decide +kernel
theorem dX4_settleInFlow_68 : decode cX4_settleInFlow 68 = .ok (.ladd, 1) := by decide +kernel
theorem dX4_settleInFlow_69 : decode cX4_settleInFlow 69 = .ok (.lstore 7, 2) := by decide +kernel
theorem dX4_settleInFlow_71 : decode cX4_settleInFlow 71 = .ok (.aload_n 1, 1) := by decide +kernel
theorem dX4_settleInFlow_72 : decode cX4_settleInFlow 72 = .ok (.getfield 59, 3) := by decide +kernel
theorem dX4_settleInFlow_75 : decode cX4_settleInFlow 75 = .ok (.getstatic 136, 3) := by decide +kernel
theorem dX4_settleInFlow_78 : decode cX4_settleInFlow 78 = .ok (.if_acmp .ne 21, 3) := by decide +kernel
theorem dX4_settleInFlow_81 : decode cX4_settleInFlow 81 = .ok (.aload_n 2, 1) := by decide +kernel
theorem dX4_settleInFlow_82 : decode cX4_settleInFlow 82 = .ok (.aload_n 1, 1) := by decide +kernel
theorem dX4_settleInFlow_83 : decode cX4_settleInFlow 83 = .ok (.aload_n 2, 1) := by decide +kernel
theorem dX4_settleInFlow_84 : decode cX4_settleInFlow 84 = .ok (.invokestatic 139, 3) := by decide +kernel
theorem dX4_settleInFlow_87 : decode cX4_settleInFlow 87 = .ok (.putfield 143, 3) := by decide +kernel
theorem dX4_settleInFlow_90 : decode cX4_settleInFlow 90 = .ok (.aload_n 2, 1) := by decide +kernel
theorem dX4_settleInFlow_91 : decode cX4_settleInFlow 91 = .ok (.aload_n 1, 1) := by decide +kernel
theorem dX4_settleInFlow_92 : decode cX4_settleInFlow 92 = .ok (.aload_n 2, 1) := by decide +kernel
theorem dX4_settleInFlow_93 : decode cX4_settleInFlow 93 = .ok (.invokestatic 146, 3) := by decide +kernel
theorem dX4_settleInFlow_96 : decode cX4_settleInFlow 96 = .ok (.putfield 150, 3) := by decide +kernel
theorem dX4_settleInFlow_99 : decode cX4_settleInFlow 99 = .ok (.aload_n 2, 1) := by decide +kernel
theorem dX4_settleInFlow_100 : decode cX4_settleInFlow 100 = .ok (.lload 5, 2) := by decide +kernel
theorem dX4_settleInFlow_102 : decode cX4_settleInFlow 102 = .ok (.aload_n 2, 1) := by decide +kernel
theorem dX4_settleInFlow_103 : decode cX4_settleInFlow 103 = .ok (.getfield 143, 3) := by decide +kernel
theorem dX4_settleInFlow_106 : decode cX4_settleInFlow 106 = .ok (.ladd, 1) := by decide +kernel
theorem dX4_settleInFlow_107 : decode cX4_settleInFlow 107 = .ok (.putfield 105, 3) := by decide +kernel
theorem dX4_settleInFlow_110 : decode cX4_settleInFlow 110 = .ok (.aload_n 2, 1) := by decide +kernel
theorem dX4_settleInFlow_111 : decode cX4_settleInFlow 111 = .ok (.lload 7, 2) := by decide +kernel
theorem dX4_settleInFlow_113 : decode cX4_settleInFlow 113 = .ok (.aload_n 2, 1) := by decide +kernel
theorem dX4_settleInFlow_114 : decode cX4_settleInFlow 114 = .ok (.getfield 150, 3) := by decide +kernel
theorem dX4_settleInFlow_117 : decode cX4_settleInFlow 117 = .ok (.i2l, 1) := by decide +kernel
theorem dX4_settleInFlow_118 : decode cX4_settleInFlow 118 = .ok (.ladd, 1) := by decide +kernel
theorem dX4_settleInFlow_119 : decode cX4_settleInFlow 119 = .ok (.putfield 109, 3) := by decide +kernel
theorem dX4_settleInFlow_122 : decode cX4_settleInFlow 122 = .ok (.aload_n 2, 1) := by decide +kernel
theorem dX4_settleInFlow_123 : decode cX4_settleInFlow 123 = .ok (.aload_n 1, 1) := by decide +kernel
theorem dX4_settleInFlow_124 : decode cX4_settleInFlow 124 = .ok (.getfield 153, 3) := by decide +kernel
theorem dX4_settleInFlow_127 : decode cX4_settleInFlow 127 = .ok (.ifCond .eq 19, 3) := by decide +kernel
theorem dX4_settleInFlow_130 : decode cX4_settleInFlow 130 = .ok (.aload_n 2, 1) := by decide +kernel
theorem dX4_settleInFlow_131 : decode cX4_settleInFlow 131 = .ok (.getfield 105, 3) := by decide +kernel
theorem dX4_settleInFlow_134 : decode cX4_settleInFlow 134 = .ok (.aload_n 1, 1) := by decide +kernel
theorem dX4_settleInFlow_135 : decode cX4_settleInFlow 135 = .ok (.getfield 128, 3) := by decide +kernel
theorem dX4_settleInFlow_138 : decode cX4_settleInFlow 138 = .ok (.bipush 13, 2) := by decide +kernel
theorem dX4_settleInFlow_140 : decode cX4_settleInFlow 140 = .ok (.iaload, 1) := by decide +kernel
theorem dX4_settleInFlow_141 : decode cX4_settleInFlow 141 = .ok (.i2l, 1) := by decide +kernel
theorem dX4_settleInFlow_142 : decode cX4_settleInFlow 142 = .ok (.ladd, 1) := by decide +kernel
theorem dX4_settleInFlow_143 : decode cX4_settleInFlow 143 = .ok (.goto 5, 3) := by decide +kernel
theorem dX4_settleInFlow_146 : decode cX4_settleInFlow 146 = .ok (.lload 5, 2) := by decide +kernel
theorem dX4_settleInFlow_148 : decode cX4_settleInFlow 148 = .ok (.putfield 112, 3) := by decide +kernel
theorem dX4_settleInFlow_151 : decode cX4_settleInFlow 151 = .ok (.aload_n 2, 1) := by decide +kernel
theorem dX4_settleInFlow_152 : decode cX4_settleInFlow 152 = .ok (.aload_n 1, 1) := by decide +kernel
theorem dX4_settleInFlow_153 : decode cX4_settleInFlow 153 = .ok (.getfield 153, 3) := by decide +kernel
theorem dX4_settleInFlow_156 : decode cX4_settleInFlow 156 = .ok (.ifCond .eq 19, 3) := by decide +kernel
theorem dX4_settleInFlow_159 : decode cX4_settleInFlow 159 = .ok (.aload_n 2, 1) := by decide +kernel
theorem dX4_settleInFlow_160 : decode cX4_settleInFlow 160 = .ok (.getfield 109, 3) := by decide +kernel
theorem dX4_settleInFlow_163 : decode cX4_settleInFlow 163 = .ok (.aload_n 1, 1) := by decide +kernel
theorem dX4_settleInFlow_164 : decode cX4_settleInFlow 164 = .ok (.getfield 128, 3) := by decide +kernel
theorem dX4_settleInFlow_167 : decode cX4_settleInFlow 167 = .ok (.bipush 10, 2) := by decide +kernel
theorem dX4_settleInFlow_169 : decode cX4_settleInFlow 169 = .ok (.iaload, 1) := by decide +kernel
theorem dX4_settleInFlow_170 : decode cX4_settleInFlow 170 = .ok (.i2l, 1) := by decide +kernel
theorem dX4_settleInFlow_171 : decode cX4_settleInFlow 171 = .ok (.ladd, 1) := by decide +kernel
theorem dX4_settleInFlow_172 : decode cX4_settleInFlow 172 = .ok (.goto 5, 3) := by decide +kernel
theorem dX4_settleInFlow_175 : decode cX4_settleInFlow 175 = .ok (.lload 7, 2) := by decide +kernel
theorem dX4_settleInFlow_177 : decode cX4_settleInFlow 177 = .ok (.putfield 115, 3) := by decide +kernel
theorem dX4_settleInFlow_180 : decode cX4_settleInFlow 180 = .ok (.return_, 1) := by decide +kernel
theorem dX4_offsetOf_0 : decode cX4_offsetOf 0 = .ok (.iload_n 0, 1) := by decide +kernel
theorem dX4_offsetOf_1 : decode cX4_offsetOf 1 = .ok (.sipush (-1000), 3) := by decide +kernel
theorem dX4_offsetOf_4 : decode cX4_offsetOf 4 = .ok (.if_icmp .ne 7, 3) := by decide +kernel
theorem dX4_offsetOf_7 : decode cX4_offsetOf 7 = .ok (.iconst 0, 1) := by decide +kernel
theorem dX4_offsetOf_8 : decode cX4_offsetOf 8 = .ok (.goto 4, 3) := by decide +kernel
theorem dX4_offsetOf_11 : decode cX4_offsetOf 11 = .ok (.iload_n 0, 1) := by decide +kernel
theorem dX4_offsetOf_12 : decode cX4_offsetOf 12 = .ok (.ireturn, 1) := by decide +kernel
theorem dX4_widthIn_0 : decode cX4_widthIn 0 = .ok (.aload_n 0, 1) := by decide +kernel
theorem dX4_widthIn_1 : decode cX4_widthIn 1 = .ok (.getfield 128, 3) := by decide +kernel
theorem dX4_widthIn_4 : decode cX4_widthIn 4 = .ok (.iconst 4, 1) := by decide +kernel
theorem dX4_widthIn_5 : decode cX4_widthIn 5 = .ok (.iaload, 1) := by decide +kernel
theorem dX4_widthIn_6 : decode cX4_widthIn 6 = .ok (.istore_n 3, 1) := by decide +kernel
theorem dX4_widthIn_7 : decode cX4_widthIn 7 = .ok (.iload_n 3, 1) := by decide +kernel
theorem dX4_widthIn_8 : decode cX4_widthIn 8 = .ok (.sipush 1000, 3) := by decide +kernel
theorem dX4_widthIn_11 : decode cX4_widthIn 11 = .ok (.if_icmp .lt 15, 3) := by decide +kernel
theorem dX4_widthIn_14 : decode cX4_widthIn 14 = .ok (.iload_n 1, 1) := by decide +kernel
theorem dX4_widthIn_15 : decode cX4_widthIn 15 = .ok (.iload_n 3, 1) := by decide +kernel
theorem dX4_widthIn_16 : decode cX4_widthIn 16 = .ok (.sipush 1000, 3) := by decide +kernel
theorem dX4_widthIn_19 : decode cX4_widthIn 19 = .ok (.isub, 1) := by decide +kernel
theorem dX4_widthIn_20 : decode cX4_widthIn 20 = .ok (.bipush 100, 2) := by decide +kernel
theorem dX4_widthIn_22 : decode cX4_widthIn 22 = .ok (.invokestatic 169, 3) := by decide +kernel
theorem dX4_widthIn_25 : decode cX4_widthIn 25 = .ok (.ireturn, 1) := by decide +kernel
theorem dX4_widthIn_26 : decode cX4_widthIn 26 = .ok (.iload_n 3, 1) := by decide +kernel
theorem dX4_widthIn_27 : decode cX4_widthIn 27 = .ok (.ifCond .lt 5, 3) := by decide +kernel
theorem dX4_widthIn_30 : decode cX4_widthIn 30 = .ok (.iload_n 3, 1) := by decide +kernel
theorem dX4_widthIn_31 : decode cX4_widthIn 31 = .ok (.ireturn, 1) := by decide +kernel
theorem dX4_widthIn_32 : decode cX4_widthIn 32 = .ok (.iload_n 3, 1) := by decide +kernel
theorem dX4_widthIn_33 : decode cX4_widthIn 33 = .ok (.bipush (-2), 2) := by decide +kernel
theorem dX4_widthIn_35 : decode cX4_widthIn 35 = .ok (.if_icmp .ne 8, 3) := by decide +kernel
theorem dX4_widthIn_38 : decode cX4_widthIn 38 = .ok (.aload_n 0, 1) := by decide +kernel
theorem dX4_widthIn_39 : decode cX4_widthIn 39 = .ok (.invokestatic 173, 3) := by decide +kernel
theorem dX4_widthIn_42 : decode cX4_widthIn 42 = .ok (.ireturn, 1) := by decide +kernel
theorem dX4_widthIn_43 : decode cX4_widthIn 43 = .ok (.iload_n 3, 1) := by decide +kernel
theorem dX4_widthIn_44 : decode cX4_widthIn 44 = .ok (.bipush (-3), 2) := by decide +kernel
theorem dX4_widthIn_46 : decode cX4_widthIn 46 = .ok (.if_icmp .ne 8, 3) := by decide +kernel
theorem dX4_widthIn_49 : decode cX4_widthIn 49 = .ok (.aload_n 0, 1) := by decide +kernel
theorem dX4_widthIn_50 : decode cX4_widthIn 50 = .ok (.invokestatic 179, 3) := by decide +kernel
theorem dX4_widthIn_53 : decode cX4_widthIn 53 = .ok (.ireturn, 1) := by decide +kernel
theorem dX4_widthIn_54 : decode cX4_widthIn 54 = .ok (.iload_n 3, 1) := by decide +kernel
theorem dX4_widthIn_55 : decode cX4_widthIn 55 = .ok (.iconst (-1), 1) := by decide +kernel
theorem dX4_widthIn_56 : decode cX4_widthIn 56 = .ok (.if_icmp .ne 26, 3) := by decide +kernel
theorem dX4_widthIn_59 : decode cX4_widthIn 59 = .ok (.aload_n 0, 1) := by decide +kernel
theorem dX4_widthIn_60 : decode cX4_widthIn 60 = .ok (.getfield 59, 3) := by decide +kernel
theorem dX4_widthIn_63 : decode cX4_widthIn 63 = .ok (.getstatic 182, 3) := by decide +kernel
theorem dX4_widthIn_66 : decode cX4_widthIn 66 = .ok (.if_acmp .ne 16, 3) := by decide +kernel
theorem dX4_widthIn_69 : decode cX4_widthIn 69 = .ok (.aload_n 0, 1) := by decide +kernel
theorem dX4_widthIn_70 : decode cX4_widthIn 70 = .ok (.getfield 185, 3) := by decide +kernel
theorem dX4_widthIn_73 : decode cX4_widthIn 73 = .ok (.ifCond .ne 9, 3) := by decide +kernel
theorem dX4_widthIn_76 : decode cX4_widthIn 76 = .ok (.iconst 0, 1) := by decide +kernel
theorem dX4_widthIn_77 : decode cX4_widthIn 77 = .ok (.iload_n 2, 1) := by decide +kernel
theorem dX4_widthIn_78 : decode cX4_widthIn 78 = .ok (.invokestatic 188, 3) := by decide +kernel
theorem dX4_widthIn_81 : decode cX4_widthIn 81 = .ok (.ireturn, 1) := by decide +kernel
theorem dX4_widthIn_82 : decode cX4_widthIn 82 = .ok (.aload_n 0, 1) := by decide +kernel
theorem dX4_widthIn_83 : decode cX4_widthIn 83 = .ok (.invokestatic 173, 3) := by decide +kernel
theorem dX4_widthIn_86 : decode cX4_widthIn 86 = .ok (.aload_n 0, 1) := by decide +kernel
theorem dX4_widthIn_87 : decode cX4_widthIn 87 = .ok (.invokestatic 179, 3) := by decide +kernel
theorem dX4_widthIn_90 : decode cX4_widthIn 90 = .ok (.iload_n 2, 1) := by decide +kernel
theorem dX4_widthIn_91 : decode cX4_widthIn 91 = .ok (.invokestatic 194, 3) := by decide +kernel
theorem dX4_widthIn_94 : decode cX4_widthIn 94 = .ok (.invokestatic 188, 3) := by decide +kernel
theorem dX4_widthIn_97 : decode cX4_widthIn 97 = .ok (.ireturn, 1) := by decide +kernel
theorem dX4_heightIn_0 : decode cX4_heightIn 0 = .ok (.aload_n 0, 1) := by decide +kernel
theorem dX4_heightIn_1 : decode cX4_heightIn 1 = .ok (.getfield 128, 3) := by decide +kernel
theorem dX4_heightIn_4 : decode cX4_heightIn 4 = .ok (.iconst 5, 1) := by decide +kernel
theorem dX4_heightIn_5 : decode cX4_heightIn 5 = .ok (.iaload, 1) := by decide +kernel
theorem dX4_heightIn_6 : decode cX4_heightIn 6 = .ok (.istore_n 2, 1) := by decide +kernel
theorem dX4_heightIn_7 : decode cX4_heightIn 7 = .ok (.iload_n 2, 1) := by decide +kernel
theorem dX4_heightIn_8 : decode cX4_heightIn 8 = .ok (.sipush 1000, 3) := by decide +kernel
theorem dX4_heightIn_11 : decode cX4_heightIn 11 = .ok (.if_icmp .lt 23, 3) := by decide +kernel
theorem dX4_heightIn_14 : decode cX4_heightIn 14 = .ok (.iload_n 1, 1) := by decide +kernel
theorem dX4_heightIn_15 : decode cX4_heightIn 15 = .ok (.ifCond .ge 7, 3) := by decide +kernel
theorem dX4_heightIn_18 : decode cX4_heightIn 18 = .ok (.iconst (-1), 1) := by decide +kernel
theorem dX4_heightIn_19 : decode cX4_heightIn 19 = .ok (.goto 14, 3) := by decide +kernel
theorem dX4_heightIn_22 : decode cX4_heightIn 22 = .ok (.iload_n 1, 1) := by decide +kernel
theorem dX4_heightIn_23 : decode cX4_heightIn 23 = .ok (.iload_n 2, 1) := by decide +kernel
theorem dX4_heightIn_24 : decode cX4_heightIn 24 = .ok (.sipush 1000, 3) := by decide +kernel
theorem dX4_heightIn_27 : decode cX4_heightIn 27 = .ok (.isub, 1) := by decide +kernel
theorem dX4_heightIn_28 : decode cX4_heightIn 28 = .ok (.bipush 100, 2) := by decide +kernel
theorem dX4_heightIn_30 : decode cX4_heightIn 30 = .ok (.invokestatic 169, 3) := by decide +kernel
theorem dX4_heightIn_33 : decode cX4_heightIn 33 = .ok (.ireturn, 1) := by decide +kernel
theorem dX4_heightIn_34 : decode cX4_heightIn 34 = .ok (.iload_n 2, 1) := by decide +kernel
theorem dX4_heightIn_35 : decode cX4_heightIn 35 = .ok (.ifCond .lt 7, 3) := by decide +kernel
theorem dX4_heightIn_38 : decode cX4_heightIn 38 = .ok (.iload_n 2, 1) := by decide +kernel
theorem dX4_heightIn_39 : decode cX4_heightIn 39 = .ok (.goto 4, 3) := by decide +kernel
theorem dX4_heightIn_42 : decode cX4_heightIn 42 = .ok (.iconst (-1), 1) := by decide +kernel
theorem dX4_heightIn_43 : decode cX4_heightIn 43 = .ok (.ireturn, 1) := by decide +kernel
theorem dX4_partOf_0 : decode cX4_partOf 0 = .ok (.iload_n 2, 1) := by decide +kernel
theorem dX4_partOf_1 : decode cX4_partOf 1 = .ok (.ifCond .gt 7, 3) := by decide +kernel
theorem dX4_partOf_4 : decode cX4_partOf 4 = .ok (.iconst 0, 1) := by decide +kernel
theorem dX4_partOf_5 : decode cX4_partOf 5 = .ok (.goto 12, 3) := by decide +kernel
theorem dX4_partOf_8 : decode cX4_partOf 8 = .ok (.iload_n 0, 1) := by decide +kernel
theorem dX4_partOf_9 : decode cX4_partOf 9 = .ok (.i2l, 1) := by decide +kernel
theorem dX4_partOf_10 : decode cX4_partOf 10 = .ok (.iload_n 1, 1) := by decide +kernel
theorem dX4_partOf_11 : decode cX4_partOf 11 = .ok (.i2l, 1) := by decide +kernel
theorem dX4_partOf_12 : decode cX4_partOf 12 = .ok (.lmul, 1) := by decide +kernel
theorem dX4_partOf_13 : decode cX4_partOf 13 = .ok (.iload_n 2, 1) := by decide +kernel
theorem dX4_partOf_14 : decode cX4_partOf 14 = .ok (.i2l, 1) := by decide +kernel
theorem dX4_partOf_15 : decode cX4_partOf 15 = .ok (.ldiv, 1) := by decide +kernel
theorem dX4_partOf_16 : decode cX4_partOf 16 = .ok (.l2i, 1) := by decide +kernel
theorem dX4_partOf_17 : decode cX4_partOf 17 = .ok (.ireturn, 1) := by decide +kernel
theorem dX4_knownHeight_0 : decode cX4_knownHeight 0 = .ok (.aload_n 1, 1) := by decide +kernel
theorem dX4_knownHeight_1 : decode cX4_knownHeight 1 = .ok (.getfield 75, 3) := by decide +kernel
theorem dX4_knownHeight_4 : decode cX4_knownHeight 4 = .ok (.astore_n 2, 1) := by decide +kernel
theorem dX4_knownHeight_5 : decode cX4_knownHeight 5 = .ok (.aload_n 2, 1) := by decide +kernel
theorem dX4_knownHeight_6 : decode cX4_knownHeight 6 = .ok (.ifnull 21, 3) := by decide +kernel
theorem dX4_knownHeight_9 : decode cX4_knownHeight 9 = .ok (.aload_n 2, 1) := by decide +kernel
theorem dX4_knownHeight_10 : decode cX4_knownHeight 10 = .ok (.getfield 59, 3) := by decide +kernel
theorem dX4_knownHeight_13 : decode cX4_knownHeight 13 = .ok (.getstatic 197, 3) := by decide +kernel
theorem dX4_knownHeight_16 : decode cX4_knownHeight 16 = .ok (.if_acmp .ne 11, 3) := by decide +kernel
theorem dX4_knownHeight_19 : decode cX4_knownHeight 19 = .ok (.aload_n 2, 1) := by decide +kernel
theorem dX4_knownHeight_20 : decode cX4_knownHeight 20 = .ok (.getfield 75, 3) := by decide +kernel
theorem dX4_knownHeight_23 : decode cX4_knownHeight 23 = .ok (.astore_n 2, 1) := by decide +kernel
theorem dX4_knownHeight_24 : decode cX4_knownHeight 24 = .ok (.goto (-19), 3) := by decide +kernel
theorem dX4_knownHeight_27 : decode cX4_knownHeight 27 = .ok (.aload_n 1, 1) := by decide +kernel
theorem dX4_knownHeight_28 : decode cX4_knownHeight 28 = .ok (.aload_n 2, 1) := by decide +kernel
theorem dX4_knownHeight_29 : decode cX4_knownHeight 29 = .ok (.ifnonnull 7, 3) := by decide +kernel
theorem dX4_knownHeight_32 : decode cX4_knownHeight 32 = .ok (.iconst (-1), 1) := by decide +kernel
theorem dX4_knownHeight_33 : decode cX4_knownHeight 33 = .ok (.goto 11, 3) := by decide +kernel
theorem dX4_knownHeight_36 : decode cX4_knownHeight 36 = .ok (.aload_n 0, 1) := by decide +kernel
theorem dX4_knownHeight_37 : decode cX4_knownHeight 37 = .ok (.aload_n 2, 1) := by decide +kernel
theorem dX4_knownHeight_38 : decode cX4_knownHeight 38 = .ok (.invokevirtual 35, 3) := by decide +kernel
theorem dX4_knownHeight_41 : decode cX4_knownHeight 41 = .ok (.getfield 98, 3) := by decide +kernel
theorem dX4_knownHeight_44 : decode cX4_knownHeight 44 = .ok (.invokestatic 101, 3) := by decide +kernel
theorem dX4_knownHeight_47 : decode cX4_knownHeight 47 = .ok (.ireturn, 1) := by decide +kernel
theorem dX4_layOut_0 : decode cX4_layOut 0 = .ok (.aload_n 0, 1) := by decide +kernel
theorem dX4_layOut_1 : decode cX4_layOut 1 = .ok (.aload_n 1, 1) := by decide +kernel
theorem dX4_layOut_2 : decode cX4_layOut 2 = .ok (.invokevirtual 35, 3) := by decide +kernel
theorem dX4_layOut_5 : decode cX4_layOut 5 = .ok (.astore 4, 2) := by decide +kernel
theorem dX4_layOut_7 : decode cX4_layOut 7 = .ok (.aload 4, 2) := by decide +kernel
theorem dX4_layOut_9 : decode cX4_layOut 9 = .ok (.iload_n 2, 1) := by decide +kernel
theorem dX4_layOut_10 : decode cX4_layOut 10 = .ok (.putfield 87, 3) := by decide +kernel
theorem dX4_layOut_13 : decode cX4_layOut 13 = .ok (.aload 4, 2) := by decide +kernel
theorem dX4_layOut_15 : decode cX4_layOut 15 = .ok (.iload_n 3, 1) := by decide +kernel
theorem dX4_layOut_16 : decode cX4_layOut 16 = .ok (.putfield 98, 3) := by decide +kernel
theorem dX4_layOut_19 : decode cX4_layOut 19 = .ok (.aload_n 1, 1) := by decide +kernel
theorem dX4_layOut_20 : decode cX4_layOut 20 = .ok (.getfield 185, 3) := by decide +kernel
theorem dX4_layOut_23 : decode cX4_layOut 23 = .ok (.ifCond .eq 20, 3) := by decide +kernel
theorem dX4_layOut_26 : decode cX4_layOut 26 = .ok (.aload 4, 2) := by decide +kernel
theorem dX4_layOut_28 : decode cX4_layOut 28 = .ok (.aload_n 0, 1) := by decide +kernel
theorem dX4_layOut_29 : decode cX4_layOut 29 = .ok (.aload_n 1, 1) := by decide +kernel
theorem dX4_layOut_30 : decode cX4_layOut 30 = .ok (.aload 4, 2) := by decide +kernel
theorem dX4_layOut_32 : decode cX4_layOut 32 = .ok (.invokevirtual 200, 3) := by decide +kernel
theorem dX4_layOut_35 : decode cX4_layOut 35 = .ok (.iload_n 3, 1) := by decide +kernel
theorem dX4_layOut_36 : decode cX4_layOut 36 = .ok (.invokestatic 188, 3) := by decide +kernel
theorem dX4_layOut_39 : decode cX4_layOut 39 = .ok (.putfield 203, 3) := by decide +kernel
theorem dX4_layOut_42 : decode cX4_layOut 42 = .ok (.return_, 1) := by decide +kernel
theorem dX4_layOut_43 : decode cX4_layOut 43 = .ok (.aload 4, 2) := by decide +kernel
theorem dX4_layOut_45 : decode cX4_layOut 45 = .ok (.getfield 39, 3) := by decide +kernel
theorem dX4_layOut_48 : decode cX4_layOut 48 = .ok (.aload_n 1, 1) := by decide +kernel
theorem dX4_layOut_49 : decode cX4_layOut 49 = .ok (.getfield 206, 3) := by decide +kernel
theorem dX4_layOut_52 : decode cX4_layOut 52 = .ok (.if_icmp .lt 21, 3) := by decide +kernel
theorem dX4_layOut_55 : decode cX4_layOut 55 = .ok (.aload 4, 2) := by decide +kernel
theorem dX4_layOut_57 : decode cX4_layOut 57 = .ok (.getfield 209, 3) := by decide +kernel
theorem dX4_layOut_60 : decode cX4_layOut 60 = .ok (.iload_n 2, 1) := by decide +kernel
theorem dX4_layOut_61 : decode cX4_layOut 61 = .ok (.if_icmp .ne 12, 3) := by decide +kernel
theorem dX4_layOut_64 : decode cX4_layOut 64 = .ok (.aload 4, 2) := by decide +kernel
theorem dX4_layOut_66 : decode cX4_layOut 66 = .ok (.getfield 212, 3) := by decide +kernel
theorem dX4_layOut_69 : decode cX4_layOut 69 = .ok (.iload_n 3, 1) := by decide +kernel
theorem dX4_layOut_70 : decode cX4_layOut 70 = .ok (.if_icmp .eq 95, 3) := by decide +kernel
theorem dX4_layOut_73 : decode cX4_layOut 73 = .ok (.aload_n 1, 1) := by decide +kernel
theorem dX4_layOut_74 : decode cX4_layOut 74 = .ok (.getfield 215, 3) := by decide +kernel
theorem dX4_layOut_77 : decode cX4_layOut 77 = .ok (.ifCond .eq 18, 3) := by decide +kernel
theorem dX4_layOut_80 : decode cX4_layOut 80 = .ok (.aload 4, 2) := by decide +kernel
theorem dX4_layOut_82 : decode cX4_layOut 82 = .ok (.aload_n 0, 1) := by decide +kernel
theorem dX4_layOut_83 : decode cX4_layOut 83 = .ok (.aload_n 1, 1) := by decide +kernel
theorem dX4_layOut_84 : decode cX4_layOut 84 = .ok (.aload 4, 2) := by decide +kernel
theorem dX4_layOut_86 : decode cX4_layOut 86 = .ok (.invokevirtual 218, 3) := by decide +kernel
theorem dX4_layOut_89 : decode cX4_layOut 89 = .ok (.putfield 221, 3) := by decide +kernel
theorem dX4_layOut_92 : decode cX4_layOut 92 = .ok (.goto 52, 3) := by decide +kernel
theorem dX4_layOut_95 : decode cX4_layOut 95 = .ok (.aload_n 1, 1) := by decide +kernel
theorem dX4_layOut_96 : decode cX4_layOut 96 = .ok (.getfield 128, 3) := by decide +kernel
theorem dX4_layOut_99 : decode cX4_layOut 99 = .ok (.bipush 17, 2) := by decide +kernel
theorem dX4_layOut_101 : decode cX4_layOut 101 = .ok (.iaload, 1) := by decide +kernel
theorem dX4_layOut_102 : decode cX4_layOut 102 = .ok (.iconst 1, 1) := by decide +kernel
theorem dX4_layOut_103 : decode cX4_layOut 103 = .ok (.if_icmp .le 18, 3) := by decide +kernel
theorem dX4_layOut_106 : decode cX4_layOut 106 = .ok (.aload 4, 2) := by decide +kernel
theorem dX4_layOut_108 : decode cX4_layOut 108 = .ok (.aload_n 0, 1) := by decide +kernel
theorem dX4_layOut_109 : decode cX4_layOut 109 = .ok (.aload_n 1, 1) := by decide +kernel
theorem dX4_layOut_110 : decode cX4_layOut 110 = .ok (.aload 4, 2) := by decide +kernel
theorem dX4_layOut_112 : decode cX4_layOut 112 = .ok (.invokevirtual 224, 3) := by decide +kernel
theorem dX4_layOut_115 : decode cX4_layOut 115 = .ok (.putfield 221, 3) := by decide +kernel
theorem dX4_layOut_118 : decode cX4_layOut 118 = .ok (.goto 26, 3) := by decide +kernel
theorem dX4_layOut_121 : decode cX4_layOut 121 = .ok (.aload_n 0, 1) := by decide +kernel
theorem dX4_layOut_122 : decode cX4_layOut 122 = .ok (.aload_n 1, 1) := by decide +kernel
theorem dX4_layOut_123 : decode cX4_layOut 123 = .ok (.iload_n 2, 1) := by decide +kernel
theorem dX4_layOut_124 : decode cX4_layOut 124 = .ok (.invokevirtual 227, 3) := by decide +kernel
theorem dX4_layOut_127 : decode cX4_layOut 127 = .ok (.istore 5, 2) := by decide +kernel
theorem dX4_layOut_129 : decode cX4_layOut 129 = .ok (.aload 4, 2) := by decide +kernel
theorem dX4_layOut_131 : decode cX4_layOut 131 = .ok (.iload_n 3, 1) := by decide +kernel
theorem dX4_layOut_132 : decode cX4_layOut 132 = .ok (.ifCond .lt 7, 3) := by decide +kernel
theorem dX4_layOut_135 : decode cX4_layOut 135 = .ok (.iload_n 3, 1) := by decide +kernel
theorem dX4_layOut_136 : decode cX4_layOut 136 = .ok (.goto 5, 3) := by decide +kernel
theorem dX4_layOut_139 : decode cX4_layOut 139 = .ok (.iload 5, 2) := by decide +kernel
theorem dX4_layOut_141 : decode cX4_layOut 141 = .ok (.putfield 221, 3) := by decide +kernel
theorem dX4_layOut_144 : decode cX4_layOut 144 = .ok (.aload 4, 2) := by decide +kernel
theorem dX4_layOut_146 : decode cX4_layOut 146 = .ok (.aload_n 0, 1) := by decide +kernel
theorem dX4_layOut_147 : decode cX4_layOut 147 = .ok (.getfield 49, 3) := by decide +kernel
theorem dX4_layOut_150 : decode cX4_layOut 150 = .ok (.putfield 39, 3) := by decide +kernel
theorem dX4_layOut_153 : decode cX4_layOut 153 = .ok (.aload 4, 2) := by decide +kernel
theorem dX4_layOut_155 : decode cX4_layOut 155 = .ok (.iload_n 2, 1) := by decide +kernel
theorem dX4_layOut_156 : decode cX4_layOut 156 = .ok (.putfield 209, 3) := by decide +kernel
theorem dX4_layOut_159 : decode cX4_layOut 159 = .ok (.aload 4, 2) := by decide +kernel
theorem dX4_layOut_161 : decode cX4_layOut 161 = .ok (.iload_n 3, 1) := by decide +kernel
theorem dX4_layOut_162 : decode cX4_layOut 162 = .ok (.putfield 212, 3) := by decide +kernel
theorem dX4_layOut_165 : decode cX4_layOut 165 = .ok (.aload 4, 2) := by decide +kernel
theorem dX4_layOut_167 : decode cX4_layOut 167 = .ok (.aload 4, 2) := by decide +kernel
theorem dX4_layOut_169 : decode cX4_layOut 169 = .ok (.getfield 221, 3) := by decide +kernel
theorem dX4_layOut_172 : decode cX4_layOut 172 = .ok (.putfield 203, 3) := by decide +kernel
theorem dX4_layOut_175 : decode cX4_layOut 175 = .ok (.return_, 1) := by decide +kernel
theorem dX4_flowOf_0 : decode cX4_flowOf 0 = .ok (.aload_n 0, 1) := by decide +kernel
theorem dX4_flowOf_1 : decode cX4_flowOf 1 = .ok (.getfield 21, 3) := by decide +kernel
theorem dX4_flowOf_4 : decode cX4_flowOf 4 = .ok (.iconst 0, 1) := by decide +kernel
theorem dX4_flowOf_5 : decode cX4_flowOf 5 = .ok (.aload_n 1, 1) := by decide +kernel
theorem dX4_flowOf_6 : decode cX4_flowOf 6 = .ok (.getfield 230, 3) := by decide +kernel
theorem dX4_flowOf_9 : decode cX4_flowOf 9 = .ok (.bipush 20, 2) := by decide +kernel
theorem dX4_flowOf_11 : decode cX4_flowOf 11 = .ok (.invokestatic 194, 3) := by decide +kernel
theorem dX4_flowOf_14 : decode cX4_flowOf 14 = .ok (.invokestatic 188, 3) := by decide +kernel
theorem dX4_flowOf_17 : decode cX4_flowOf 17 = .ok (.aaload, 1) := by decide +kernel
theorem dX4_flowOf_18 : decode cX4_flowOf 18 = .ok (.areturn, 1) := by decide +kernel
theorem dX4_flowContext_0 : decode cX4_flowContext 0 = .ok (.aload_n 0, 1) := by decide +kernel
theorem dX4_flowContext_1 : decode cX4_flowContext 1 = .ok (.dup, 1) := by decide +kernel
theorem dX4_flowContext_2 : decode cX4_flowContext 2 = .ok (.getfield 52, 3) := by decide +kernel
theorem dX4_flowContext_5 : decode cX4_flowContext 5 = .ok (.iconst 1, 1) := by decide +kernel
theorem dX4_flowContext_6 : decode cX4_flowContext 6 = .ok (.iadd, 1) := by decide +kernel
theorem dX4_flowContext_7 : decode cX4_flowContext 7 = .ok (.putfield 52, 3) := by decide +kernel
theorem dX4_flowContext_10 : decode cX4_flowContext 10 = .ok (.aload_n 0, 1) := by decide +kernel
theorem dX4_flowContext_11 : decode cX4_flowContext 11 = .ok (.aload_n 1, 1) := by decide +kernel
theorem dX4_flowContext_12 : decode cX4_flowContext 12 = .ok (.invokevirtual 233, 3) := by decide +kernel
theorem dX4_flowContext_15 : decode cX4_flowContext 15 = .ok (.astore_n 3, 1) := by decide +kernel
theorem dX4_flowContext_16 : decode cX4_flowContext 16 = .ok (.aload_n 3, 1) := by decide +kernel
theorem dX4_flowContext_17 : decode cX4_flowContext 17 = .ok (.invokevirtual 237, 3) := by decide +kernel
theorem dX4_flowContext_20 : decode cX4_flowContext 20 = .ok (.aload_n 0, 1) := by decide +kernel
theorem dX4_flowContext_21 : decode cX4_flowContext 21 = .ok (.aload_n 1, 1) := by decide +kernel
theorem dX4_flowContext_22 : decode cX4_flowContext 22 = .ok (.aload_n 3, 1) := by decide +kernel
theorem dX4_flowContext_23 : decode cX4_flowContext 23 = .ok (.iconst 0, 1) := by decide +kernel
theorem dX4_flowContext_24 : decode cX4_flowContext 24 = .ok (.iload_n 2, 1) := by decide +kernel
theorem dX4_flowContext_25 : decode cX4_flowContext 25 = .ok (.invokevirtual 240, 3) := by decide +kernel
theorem dX4_flowContext_28 : decode cX4_flowContext 28 = .ok (.aload_n 3, 1) := by decide +kernel
theorem dX4_flowContext_29 : decode cX4_flowContext 29 = .ok (.invokevirtual 244, 3) := by decide +kernel
theorem dX4_flowContext_32 : decode cX4_flowContext 32 = .ok (.aload_n 3, 1) := by decide +kernel
theorem dX4_flowContext_33 : decode cX4_flowContext 33 = .ok (.invokevirtual 247, 3) := by decide +kernel
theorem dX4_flowContext_36 : decode cX4_flowContext 36 = .ok (.ireturn, 1) := by decide +kernel
theorem dX4_flowContainer_0 : decode cX4_flowContainer 0 = .ok (.aload_n 0, 1) := by decide +kernel
theorem dX4_flowContainer_1 : decode cX4_flowContainer 1 = .ok (.aload_n 0, 1) := by decide +kernel
theorem dX4_flowContainer_2 : decode cX4_flowContainer 2 = .ok (.aload_n 1, 1) := by decide +kernel
theorem dX4_flowContainer_3 : decode cX4_flowContainer 3 = .ok (.invokevirtual 35, 3) := by decide +kernel
theorem dX4_flowContainer_6 : decode cX4_flowContainer 6 = .ok (.invokevirtual 256, 3) := by decide +kernel
theorem dX4_flowContainer_9 : decode cX4_flowContainer 9 = .ok (.aload_n 1, 1) := by decide +kernel
theorem dX4_flowContainer_10 : decode cX4_flowContainer 10 = .ok (.getfield 260, 3) := by decide +kernel
theorem dX4_flowContainer_13 : decode cX4_flowContainer 13 = .ok (.astore 5, 2) := by decide +kernel
theorem dX4_flowContainer_15 : decode cX4_flowContainer 15 = .ok (.aload 5, 2) := by decide +kernel
theorem dX4_flowContainer_17 : decode cX4_flowContainer 17 = .ok (.ifnull 127, 3) := by decide +kernel
theorem dX4_flowContainer_20 : decode cX4_flowContainer 20 = .ok (.aload_n 2, 1) := by decide +kernel
theorem dX4_flowContainer_21 : decode cX4_flowContainer 21 = .ok (.iload_n 3, 1) := by decide +kernel
theorem dX4_flowContainer_22 : decode cX4_flowContainer 22 = .ok (.putfield 263, 3) := by decide +kernel
theorem dX4_flowContainer_25 : decode cX4_flowContainer 25 = .ok (.aload_n 2, 1) := by decide +kernel
theorem dX4_flowContainer_26 : decode cX4_flowContainer 26 = .ok (.iload 4, 2) := by decide +kernel
theorem dX4_flowContainer_28 : decode cX4_flowContainer 28 = .ok (.putfield 265, 3) := by decide +kernel
theorem dX4_flowContainer_31 : decode cX4_flowContainer 31 = .ok (.aload 5, 2) := by decide +kernel
theorem dX4_flowContainer_33 : decode cX4_flowContainer 33 = .ok (.getfield 59, 3) := by decide +kernel
theorem dX4_flowContainer_36 : decode cX4_flowContainer 36 = .ok (.invokevirtual 266, 3) := by decide +kernel
theorem dX4_flowContainer_39 : decode cX4_flowContainer 39 = .ok (.ifCond .eq 49, 3) := by decide +kernel
theorem dX4_flowContainer_42 : decode cX4_flowContainer 42 = .ok (.aload 5, 2) := by decide +kernel
theorem dX4_flowContainer_44 : decode cX4_flowContainer 44 = .ok (.invokestatic 269, 3) := by decide +kernel
theorem dX4_flowContainer_47 : decode cX4_flowContainer 47 = .ok (.astore 6, 2) := by decide +kernel
theorem dX4_flowContainer_49 : decode cX4_flowContainer 49 = .ok (.aload 5, 2) := by decide +kernel
theorem dX4_flowContainer_51 : decode cX4_flowContainer 51 = .ok (.aload 6, 2) := by decide +kernel
theorem dX4_flowContainer_53 : decode cX4_flowContainer 53 = .ok (.invokestatic 272, 3) := by decide +kernel
theorem dX4_flowContainer_56 : decode cX4_flowContainer 56 = .ok (.ifCond .eq 16, 3) := by decide +kernel
theorem dX4_flowContainer_59 : decode cX4_flowContainer 59 = .ok (.aload_n 0, 1) := by decide +kernel
theorem dX4_flowContainer_60 : decode cX4_flowContainer 60 = .ok (.aload_n 1, 1) := by decide +kernel
theorem dX4_flowContainer_61 : decode cX4_flowContainer 61 = .ok (.aload_n 2, 1) := by decide +kernel
theorem dX4_flowContainer_62 : decode cX4_flowContainer 62 = .ok (.aload 5, 2) := by decide +kernel
theorem dX4_flowContainer_64 : decode cX4_flowContainer 64 = .ok (.aload 6, 2) := by decide +kernel
theorem dX4_flowContainer_66 : decode cX4_flowContainer 66 = .ok (.invokevirtual 276, 3) := by decide +kernel
theorem dX4_flowContainer_69 : decode cX4_flowContainer 69 = .ok (.goto 12, 3) := by decide +kernel
theorem dX4_flowContainer_72 : decode cX4_flowContainer 72 = .ok (.aload_n 0, 1) := by decide +kernel
theorem dX4_flowContainer_73 : decode cX4_flowContainer 73 = .ok (.aload_n 2, 1) := by decide +kernel
theorem dX4_flowContainer_74 : decode cX4_flowContainer 74 = .ok (.aload 5, 2) := by decide +kernel
theorem dX4_flowContainer_76 : decode cX4_flowContainer 76 = .ok (.aload 6, 2) := by decide +kernel
theorem dX4_flowContainer_78 : decode cX4_flowContainer 78 = .ok (.invokevirtual 280, 3) := by decide +kernel
theorem dX4_flowContainer_81 : decode cX4_flowContainer 81 = .ok (.aload 6, 2) := by decide +kernel
theorem dX4_flowContainer_83 : decode cX4_flowContainer 83 = .ok (.astore 5, 2) := by decide +kernel
theorem dX4_flowContainer_85 : decode cX4_flowContainer 85 = .ok (.goto 49, 3) := by decide +kernel
theorem dX4_flowContainer_88 : decode cX4_flowContainer 88 = .ok (.aload 5, 2) := by decide +kernel
theorem dX4_flowContainer_90 : decode cX4_flowContainer 90 = .ok (.getfield 59, 3) := by decide +kernel
theorem dX4_flowContainer_93 : decode cX4_flowContainer 93 = .ok (.getstatic 182, 3) := by decide +kernel
theorem dX4_flowContainer_96 : decode cX4_flowContainer 96 = .ok (.if_acmp .eq 13, 3) := by decide +kernel
theorem dX4_flowContainer_99 : decode cX4_flowContainer 99 = .ok (.aload_n 0, 1) := by decide +kernel
theorem dX4_flowContainer_100 : decode cX4_flowContainer 100 = .ok (.aload 5, 2) := by decide +kernel
theorem dX4_flowContainer_102 : decode cX4_flowContainer 102 = .ok (.aload_n 2, 1) := by decide +kernel
theorem dX4_flowContainer_103 : decode cX4_flowContainer 103 = .ok (.invokevirtual 284, 3) := by decide +kernel
theorem dX4_flowContainer_106 : decode cX4_flowContainer 106 = .ok (.goto 28, 3) := by decide +kernel
theorem dX4_flowContainer_109 : decode cX4_flowContainer 109 = .ok (.aload 5, 2) := by decide +kernel
theorem dX4_flowContainer_111 : decode cX4_flowContainer 111 = .ok (.getfield 153, 3) := by decide +kernel
theorem dX4_flowContainer_114 : decode cX4_flowContainer 114 = .ok (.ifCond .eq 13, 3) := by decide +kernel
theorem dX4_flowContainer_117 : decode cX4_flowContainer 117 = .ok (.aload_n 0, 1) := by decide +kernel
theorem dX4_flowContainer_118 : decode cX4_flowContainer 118 = .ok (.aload 5, 2) := by decide +kernel
theorem dX4_flowContainer_120 : decode cX4_flowContainer 120 = .ok (.aload_n 2, 1) := by decide +kernel
theorem dX4_flowContainer_121 : decode cX4_flowContainer 121 = .ok (.invokevirtual 288, 3) := by decide +kernel
theorem dX4_flowContainer_124 : decode cX4_flowContainer 124 = .ok (.goto 10, 3) := by decide +kernel
theorem dX4_flowContainer_127 : decode cX4_flowContainer 127 = .ok (.aload_n 0, 1) := by decide +kernel
theorem dX4_flowContainer_128 : decode cX4_flowContainer 128 = .ok (.aload 5, 2) := by decide +kernel
theorem dX4_flowContainer_130 : decode cX4_flowContainer 130 = .ok (.aload_n 2, 1) := by decide +kernel
theorem dX4_flowContainer_131 : decode cX4_flowContainer 131 = .ok (.invokevirtual 291, 3) := by decide +kernel
theorem dX4_flowContainer_134 : decode cX4_flowContainer 134 = .ok (.aload 5, 2) := by decide +kernel
theorem dX4_flowContainer_136 : decode cX4_flowContainer 136 = .ok (.getfield 294, 3) := by decide +kernel
theorem dX4_flowContainer_139 : decode cX4_flowContainer 139 = .ok (.astore 5, 2) := by decide +kernel
theorem dX4_flowContainer_141 : decode cX4_flowContainer 141 = .ok (.goto (-126), 3) := by decide +kernel
theorem dX4_flowContainer_144 : decode cX4_flowContainer 144 = .ok (.return_, 1) := by decide +kernel
theorem dX4_flowOutside_0 : decode cX4_flowOutside 0 = .ok (.aload_n 1, 1) := by decide +kernel
theorem dX4_flowOutside_1 : decode cX4_flowOutside 1 = .ok (.getfield 59, 3) := by decide +kernel
theorem dX4_flowOutside_4 : decode cX4_flowOutside 4 = .ok (.getstatic 297, 3) := by decide +kernel
theorem dX4_flowOutside_7 : decode cX4_flowOutside 7 = .ok (.if_acmp .ne 16, 3) := by decide +kernel
theorem dX4_flowOutside_10 : decode cX4_flowOutside 10 = .ok (.aload_n 0, 1) := by decide +kernel
theorem dX4_flowOutside_11 : decode cX4_flowOutside 11 = .ok (.aload_n 1, 1) := by decide +kernel
theorem dX4_flowOutside_12 : decode cX4_flowOutside 12 = .ok (.aload_n 2, 1) := by decide +kernel
theorem dX4_flowOutside_13 : decode cX4_flowOutside 13 = .ok (.aload_n 2, 1) := by decide +kernel
theorem dX4_flowOutside_14 : decode cX4_flowOutside 14 = .ok (.invokevirtual 300, 3) := by decide +kernel
theorem dX4_flowOutside_17 : decode cX4_flowOutside 17 = .ok (.invokevirtual 303, 3) := by decide +kernel
theorem dX4_flowOutside_20 : decode cX4_flowOutside 20 = .ok (.goto 36, 3) := by decide +kernel
theorem dX4_flowOutside_23 : decode cX4_flowOutside 23 = .ok (.aload_n 1, 1) := by decide +kernel
theorem dX4_flowOutside_24 : decode cX4_flowOutside 24 = .ok (.getfield 59, 3) := by decide +kernel
theorem dX4_flowOutside_27 : decode cX4_flowOutside 27 = .ok (.getstatic 63, 3) := by decide +kernel
theorem dX4_flowOutside_30 : decode cX4_flowOutside 30 = .ok (.if_acmp .ne 26, 3) := by decide +kernel
theorem dX4_flowOutside_33 : decode cX4_flowOutside 33 = .ok (.aload_n 0, 1) := by decide +kernel
theorem dX4_flowOutside_34 : decode cX4_flowOutside 34 = .ok (.aload_n 1, 1) := by decide +kernel
theorem dX4_flowOutside_35 : decode cX4_flowOutside 35 = .ok (.invokevirtual 35, 3) := by decide +kernel
theorem dX4_flowOutside_38 : decode cX4_flowOutside 38 = .ok (.astore_n 3, 1) := by decide +kernel
theorem dX4_flowOutside_39 : decode cX4_flowOutside 39 = .ok (.aload_n 3, 1) := by decide +kernel
theorem dX4_flowOutside_40 : decode cX4_flowOutside 40 = .ok (.aload_n 2, 1) := by decide +kernel
theorem dX4_flowOutside_41 : decode cX4_flowOutside 41 = .ok (.getfield 263, 3) := by decide +kernel
theorem dX4_flowOutside_44 : decode cX4_flowOutside 44 = .ok (.i2l, 1) := by decide +kernel
theorem dX4_flowOutside_45 : decode cX4_flowOutside 45 = .ok (.putfield 143, 3) := by decide +kernel
theorem dX4_flowOutside_48 : decode cX4_flowOutside 48 = .ok (.aload_n 3, 1) := by decide +kernel
theorem dX4_flowOutside_49 : decode cX4_flowOutside 49 = .ok (.aload_n 2, 1) := by decide +kernel
theorem dX4_flowOutside_50 : decode cX4_flowOutside 50 = .ok (.invokevirtual 300, 3) := by decide +kernel
theorem dX4_flowOutside_53 : decode cX4_flowOutside 53 = .ok (.putfield 150, 3) := by decide +kernel
theorem dX4_flowOutside_56 : decode cX4_flowOutside 56 = .ok (.return_, 1) := by decide +kernel
theorem dX4_flowPlainBlock_0 : decode cX4_flowPlainBlock 0 = .ok (.aload_n 0, 1) := by decide +kernel
theorem dX4_flowPlainBlock_1 : decode cX4_flowPlainBlock 1 = .ok (.aload_n 1, 1) := by decide +kernel
theorem dX4_flowPlainBlock_2 : decode cX4_flowPlainBlock 2 = .ok (.invokevirtual 35, 3) := by decide +kernel
theorem dX4_flowPlainBlock_5 : decode cX4_flowPlainBlock 5 = .ok (.astore_n 3, 1) := by decide +kernel
theorem dX4_flowPlainBlock_6 : decode cX4_flowPlainBlock 6 = .ok (.aload_n 1, 1) := by decide +kernel
theorem dX4_flowPlainBlock_7 : decode cX4_flowPlainBlock 7 = .ok (.getfield 128, 3) := by decide +kernel
theorem dX4_flowPlainBlock_10 : decode cX4_flowPlainBlock 10 = .ok (.astore 4, 2) := by decide +kernel
theorem dX4_flowPlainBlock_12 : decode cX4_flowPlainBlock 12 = .ok (.aload_n 2, 1) := by decide +kernel
theorem dX4_flowPlainBlock_13 : decode cX4_flowPlainBlock 13 = .ok (.aload 4, 2) := by decide +kernel
theorem dX4_flowPlainBlock_15 : decode cX4_flowPlainBlock 15 = .ok (.bipush 6, 2) := by decide +kernel
theorem dX4_flowPlainBlock_17 : decode cX4_flowPlainBlock 17 = .ok (.iaload, 1) := by decide +kernel
theorem dX4_flowPlainBlock_18 : decode cX4_flowPlainBlock 18 = .ok (.invokevirtual 307, 3) := by decide +kernel
theorem dX4_flowPlainBlock_21 : decode cX4_flowPlainBlock 21 = .ok (.aload_n 2, 1) := by decide +kernel
theorem dX4_flowPlainBlock_22 : decode cX4_flowPlainBlock 22 = .ok (.aload 4, 2) := by decide +kernel
theorem dX4_flowPlainBlock_24 : decode cX4_flowPlainBlock 24 = .ok (.iconst 2, 1) := by decide +kernel
theorem dX4_flowPlainBlock_25 : decode cX4_flowPlainBlock 25 = .ok (.iaload, 1) := by decide +kernel
theorem dX4_flowPlainBlock_26 : decode cX4_flowPlainBlock 26 = .ok (.invokevirtual 311, 3) := by decide +kernel
theorem dX4_flowPlainBlock_29 : decode cX4_flowPlainBlock 29 = .ok (.aload_n 3, 1) := by decide +kernel
theorem dX4_flowPlainBlock_30 : decode cX4_flowPlainBlock 30 = .ok (.aload_n 0, 1) := by decide +kernel
theorem dX4_flowPlainBlock_31 : decode cX4_flowPlainBlock 31 = .ok (.aload_n 1, 1) := by decide +kernel
theorem dX4_flowPlainBlock_32 : decode cX4_flowPlainBlock 32 = .ok (.invokevirtual 314, 3) := by decide +kernel
theorem dX4_flowPlainBlock_35 : decode cX4_flowPlainBlock 35 = .ok (.putfield 98, 3) := by decide +kernel
theorem dX4_flowPlainBlock_38 : decode cX4_flowPlainBlock 38 = .ok (.aload_n 3, 1) := by decide +kernel
theorem dX4_flowPlainBlock_39 : decode cX4_flowPlainBlock 39 = .ok (.aload_n 1, 1) := by decide +kernel
theorem dX4_flowPlainBlock_40 : decode cX4_flowPlainBlock 40 = .ok (.aload_n 2, 1) := by decide +kernel
theorem dX4_flowPlainBlock_41 : decode cX4_flowPlainBlock 41 = .ok (.getfield 265, 3) := by decide +kernel
theorem dX4_flowPlainBlock_44 : decode cX4_flowPlainBlock 44 = .ok (.aload_n 2, 1) := by decide +kernel
theorem dX4_flowPlainBlock_45 : decode cX4_flowPlainBlock 45 = .ok (.getfield 265, 3) := by decide +kernel
theorem dX4_flowPlainBlock_48 : decode cX4_flowPlainBlock 48 = .ok (.aload_n 1, 1) := by decide +kernel
theorem dX4_flowPlainBlock_49 : decode cX4_flowPlainBlock 49 = .ok (.invokevirtual 90, 3) := by decide +kernel
theorem dX4_flowPlainBlock_52 : decode cX4_flowPlainBlock 52 = .ok (.isub, 1) := by decide +kernel
theorem dX4_flowPlainBlock_53 : decode cX4_flowPlainBlock 53 = .ok (.invokestatic 94, 3) := by decide +kernel
theorem dX4_flowPlainBlock_56 : decode cX4_flowPlainBlock 56 = .ok (.putfield 87, 3) := by decide +kernel
theorem dX4_flowPlainBlock_59 : decode cX4_flowPlainBlock 59 = .ok (.aload_n 2, 1) := by decide +kernel
theorem dX4_flowPlainBlock_60 : decode cX4_flowPlainBlock 60 = .ok (.getfield 263, 3) := by decide +kernel
theorem dX4_flowPlainBlock_63 : decode cX4_flowPlainBlock 63 = .ok (.aload 4, 2) := by decide +kernel
theorem dX4_flowPlainBlock_65 : decode cX4_flowPlainBlock 65 = .ok (.bipush 9, 2) := by decide +kernel
theorem dX4_flowPlainBlock_67 : decode cX4_flowPlainBlock 67 = .ok (.iaload, 1) := by decide +kernel
theorem dX4_flowPlainBlock_68 : decode cX4_flowPlainBlock 68 = .ok (.iadd, 1) := by decide +kernel
theorem dX4_flowPlainBlock_69 : decode cX4_flowPlainBlock 69 = .ok (.istore 5, 2) := by decide +kernel
theorem dX4_flowPlainBlock_71 : decode cX4_flowPlainBlock 71 = .ok (.aload_n 3, 1) := by decide +kernel
theorem dX4_flowPlainBlock_72 : decode cX4_flowPlainBlock 72 = .ok (.iload 5, 2) := by decide +kernel
theorem dX4_flowPlainBlock_74 : decode cX4_flowPlainBlock 74 = .ok (.i2l, 1) := by decide +kernel
theorem dX4_flowPlainBlock_75 : decode cX4_flowPlainBlock 75 = .ok (.putfield 143, 3) := by decide +kernel
theorem dX4_flowPlainBlock_78 : decode cX4_flowPlainBlock 78 = .ok (.aload_n 3, 1) := by decide +kernel
theorem dX4_flowPlainBlock_79 : decode cX4_flowPlainBlock 79 = .ok (.iconst 0, 1) := by decide +kernel
theorem dX4_flowPlainBlock_80 : decode cX4_flowPlainBlock 80 = .ok (.putfield 317, 3) := by decide +kernel
theorem dX4_flowPlainBlock_83 : decode cX4_flowPlainBlock 83 = .ok (.aload_n 3, 1) := by decide +kernel
theorem dX4_flowPlainBlock_84 : decode cX4_flowPlainBlock 84 = .ok (.aload_n 2, 1) := by decide +kernel
theorem dX4_flowPlainBlock_85 : decode cX4_flowPlainBlock 85 = .ok (.getfield 320, 3) := by decide +kernel
theorem dX4_flowPlainBlock_88 : decode cX4_flowPlainBlock 88 = .ok (.putfield 323, 3) := by decide +kernel
theorem dX4_flowPlainBlock_91 : decode cX4_flowPlainBlock 91 = .ok (.aload_n 2, 1) := by decide +kernel
theorem dX4_flowPlainBlock_92 : decode cX4_flowPlainBlock 92 = .ok (.aload_n 3, 1) := by decide +kernel
theorem dX4_flowPlainBlock_93 : decode cX4_flowPlainBlock 93 = .ok (.putfield 320, 3) := by decide +kernel
theorem dX4_flowPlainBlock_96 : decode cX4_flowPlainBlock 96 = .ok (.aload 4, 2) := by decide +kernel
theorem dX4_flowPlainBlock_98 : decode cX4_flowPlainBlock 98 = .ok (.bipush 10, 2) := by decide +kernel
theorem dX4_flowPlainBlock_100 : decode cX4_flowPlainBlock 100 = .ok (.iaload, 1) := by decide +kernel
theorem dX4_flowPlainBlock_101 : decode cX4_flowPlainBlock 101 = .ok (.ifCond .le 21, 3) := by decide +kernel
theorem dX4_flowPlainBlock_104 : decode cX4_flowPlainBlock 104 = .ok (.aload_n 2, 1) := by decide +kernel
theorem dX4_flowPlainBlock_105 : decode cX4_flowPlainBlock 105 = .ok (.invokevirtual 244, 3) := by decide +kernel
theorem dX4_flowPlainBlock_108 : decode cX4_flowPlainBlock 108 = .ok (.aload_n 2, 1) := by decide +kernel
theorem dX4_flowPlainBlock_109 : decode cX4_flowPlainBlock 109 = .ok (.dup, 1) := by decide +kernel
theorem dX4_flowPlainBlock_110 : decode cX4_flowPlainBlock 110 = .ok (.getfield 326, 3) := by decide +kernel
theorem dX4_flowPlainBlock_113 : decode cX4_flowPlainBlock 113 = .ok (.aload 4, 2) := by decide +kernel
theorem dX4_flowPlainBlock_115 : decode cX4_flowPlainBlock 115 = .ok (.bipush 10, 2) := by decide +kernel
theorem dX4_flowPlainBlock_117 : decode cX4_flowPlainBlock 117 = .ok (.iaload, 1) := by decide +kernel
theorem dX4_flowPlainBlock_118 : decode cX4_flowPlainBlock 118 = .ok (.iadd, 1) := by decide +kernel
theorem dX4_flowPlainBlock_119 : decode cX4_flowPlainBlock 119 = .ok (.putfield 326, 3) := by decide +kernel
theorem dX4_flowPlainBlock_122 : decode cX4_flowPlainBlock 122 = .ok (.aload_n 2, 1) := by decide +kernel
theorem dX4_flowPlainBlock_123 : decode cX4_flowPlainBlock 123 = .ok (.iload 5, 2) := by decide +kernel
theorem dX4_flowPlainBlock_125 : decode cX4_flowPlainBlock 125 = .ok (.aload_n 3, 1) := by decide +kernel
theorem dX4_flowPlainBlock_126 : decode cX4_flowPlainBlock 126 = .ok (.getfield 87, 3) := by decide +kernel
theorem dX4_flowPlainBlock_129 : decode cX4_flowPlainBlock 129 = .ok (.iadd, 1) := by decide +kernel
theorem dX4_flowPlainBlock_130 : decode cX4_flowPlainBlock 130 = .ok (.aload_n 1, 1) := by decide +kernel
theorem dX4_flowPlainBlock_131 : decode cX4_flowPlainBlock 131 = .ok (.invokevirtual 329, 3) := by decide +kernel
theorem dX4_flowPlainBlock_134 : decode cX4_flowPlainBlock 134 = .ok (.iadd, 1) := by decide +kernel
theorem dX4_flowPlainBlock_135 : decode cX4_flowPlainBlock 135 = .ok (.invokevirtual 332, 3) := by decide +kernel
theorem dX4_flowPlainBlock_138 : decode cX4_flowPlainBlock 138 = .ok (.aload_n 0, 1) := by decide +kernel
theorem dX4_flowPlainBlock_139 : decode cX4_flowPlainBlock 139 = .ok (.aload_n 1, 1) := by decide +kernel
theorem dX4_flowPlainBlock_140 : decode cX4_flowPlainBlock 140 = .ok (.aload_n 2, 1) := by decide +kernel
theorem dX4_flowPlainBlock_141 : decode cX4_flowPlainBlock 141 = .ok (.iload 5, 2) := by decide +kernel
theorem dX4_flowPlainBlock_143 : decode cX4_flowPlainBlock 143 = .ok (.aload 4, 2) := by decide +kernel
theorem dX4_flowPlainBlock_145 : decode cX4_flowPlainBlock 145 = .ok (.bipush 13, 2) := by decide +kernel
theorem dX4_flowPlainBlock_147 : decode cX4_flowPlainBlock 147 = .ok (.iaload, 1) := by decide +kernel
theorem dX4_flowPlainBlock_148 : decode cX4_flowPlainBlock 148 = .ok (.iadd, 1) := by decide +kernel
theorem dX4_flowPlainBlock_149 : decode cX4_flowPlainBlock 149 = .ok (.aload_n 3, 1) := by decide +kernel
theorem dX4_flowPlainBlock_150 : decode cX4_flowPlainBlock 150 = .ok (.getfield 87, 3) := by decide +kernel
theorem dX4_flowPlainBlock_153 : decode cX4_flowPlainBlock 153 = .ok (.invokevirtual 240, 3) := by decide +kernel
theorem dX4_flowPlainBlock_156 : decode cX4_flowPlainBlock 156 = .ok (.aload_n 3, 1) := by decide +kernel
theorem dX4_flowPlainBlock_157 : decode cX4_flowPlainBlock 157 = .ok (.getfield 317, 3) := by decide +kernel
theorem dX4_flowPlainBlock_160 : decode cX4_flowPlainBlock 160 = .ok (.ifCond .eq 13, 3) := by decide +kernel
theorem dX4_flowPlainBlock_163 : decode cX4_flowPlainBlock 163 = .ok (.aload 4, 2) := by decide +kernel
theorem dX4_flowPlainBlock_165 : decode cX4_flowPlainBlock 165 = .ok (.aload_n 3, 1) := by decide +kernel
theorem dX4_flowPlainBlock_166 : decode cX4_flowPlainBlock 166 = .ok (.aload_n 2, 1) := by decide +kernel
theorem dX4_flowPlainBlock_167 : decode cX4_flowPlainBlock 167 = .ok (.invokestatic 335, 3) := by decide +kernel
theorem dX4_flowPlainBlock_170 : decode cX4_flowPlainBlock 170 = .ok (.goto 10, 3) := by decide +kernel
theorem dX4_flowPlainBlock_173 : decode cX4_flowPlainBlock 173 = .ok (.aload 4, 2) := by decide +kernel
theorem dX4_flowPlainBlock_175 : decode cX4_flowPlainBlock 175 = .ok (.aload_n 3, 1) := by decide +kernel
theorem dX4_flowPlainBlock_176 : decode cX4_flowPlainBlock 176 = .ok (.aload_n 2, 1) := by decide +kernel
theorem dX4_flowPlainBlock_177 : decode cX4_flowPlainBlock 177 = .ok (.invokestatic 339, 3) := by decide +kernel
theorem dX4_flowPlainBlock_180 : decode cX4_flowPlainBlock 180 = .ok (.aload_n 2, 1) := by decide +kernel
theorem dX4_flowPlainBlock_181 : decode cX4_flowPlainBlock 181 = .ok (.aload 4, 2) := by decide +kernel
theorem dX4_flowPlainBlock_183 : decode cX4_flowPlainBlock 183 = .ok (.bipush 8, 2) := by decide +kernel
theorem dX4_flowPlainBlock_185 : decode cX4_flowPlainBlock 185 = .ok (.iaload, 1) := by decide +kernel
theorem dX4_flowPlainBlock_186 : decode cX4_flowPlainBlock 186 = .ok (.invokevirtual 307, 3) := by decide +kernel
theorem dX4_flowPlainBlock_189 : decode cX4_flowPlainBlock 189 = .ok (.return_, 1) := by decide +kernel
theorem dX4_endWaitingBlock_0 : decode cX4_endWaitingBlock 0 = .ok (.aload_n 1, 1) := by decide +kernel
theorem dX4_endWaitingBlock_1 : decode cX4_endWaitingBlock 1 = .ok (.iconst 0, 1) := by decide +kernel
theorem dX4_endWaitingBlock_2 : decode cX4_endWaitingBlock 2 = .ok (.aload_n 1, 1) := by decide +kernel
theorem dX4_endWaitingBlock_3 : decode cX4_endWaitingBlock 3 = .ok (.getfield 98, 3) := by decide +kernel
theorem dX4_endWaitingBlock_6 : decode cX4_endWaitingBlock 6 = .ok (.invokestatic 188, 3) := by decide +kernel
theorem dX4_endWaitingBlock_9 : decode cX4_endWaitingBlock 9 = .ok (.putfield 203, 3) := by decide +kernel
theorem dX4_endWaitingBlock_12 : decode cX4_endWaitingBlock 12 = .ok (.aload_n 1, 1) := by decide +kernel
theorem dX4_endWaitingBlock_13 : decode cX4_endWaitingBlock 13 = .ok (.getfield 203, 3) := by decide +kernel
theorem dX4_endWaitingBlock_16 : decode cX4_endWaitingBlock 16 = .ok (.ifCond .gt 10, 3) := by decide +kernel
theorem dX4_endWaitingBlock_19 : decode cX4_endWaitingBlock 19 = .ok (.aload_n 0, 1) := by decide +kernel
theorem dX4_endWaitingBlock_20 : decode cX4_endWaitingBlock 20 = .ok (.bipush 12, 2) := by decide +kernel
theorem dX4_endWaitingBlock_22 : decode cX4_endWaitingBlock 22 = .ok (.iaload, 1) := by decide +kernel
theorem dX4_endWaitingBlock_23 : decode cX4_endWaitingBlock 23 = .ok (.ifCond .le 28, 3) := by decide +kernel
theorem dX4_endWaitingBlock_26 : decode cX4_endWaitingBlock 26 = .ok (.aload_n 2, 1) := by decide +kernel
theorem dX4_endWaitingBlock_27 : decode cX4_endWaitingBlock 27 = .ok (.invokevirtual 244, 3) := by decide +kernel
theorem dX4_endWaitingBlock_30 : decode cX4_endWaitingBlock 30 = .ok (.aload_n 2, 1) := by decide +kernel
theorem dX4_endWaitingBlock_31 : decode cX4_endWaitingBlock 31 = .ok (.dup, 1) := by decide +kernel
theorem dX4_endWaitingBlock_32 : decode cX4_endWaitingBlock 32 = .ok (.getfield 326, 3) := by decide +kernel
theorem dX4_endWaitingBlock_35 : decode cX4_endWaitingBlock 35 = .ok (.aload_n 0, 1) := by decide +kernel
theorem dX4_endWaitingBlock_36 : decode cX4_endWaitingBlock 36 = .ok (.bipush 12, 2) := by decide +kernel
theorem dX4_endWaitingBlock_38 : decode cX4_endWaitingBlock 38 = .ok (.iaload, 1) := by decide +kernel
theorem dX4_endWaitingBlock_39 : decode cX4_endWaitingBlock 39 = .ok (.aload_n 1, 1) := by decide +kernel
theorem dX4_endWaitingBlock_40 : decode cX4_endWaitingBlock 40 = .ok (.getfield 203, 3) := by decide +kernel
theorem dX4_endWaitingBlock_43 : decode cX4_endWaitingBlock 43 = .ok (.iadd, 1) := by decide +kernel
theorem dX4_endWaitingBlock_44 : decode cX4_endWaitingBlock 44 = .ok (.iadd, 1) := by decide +kernel
theorem dX4_endWaitingBlock_45 : decode cX4_endWaitingBlock 45 = .ok (.putfield 326, 3) := by decide +kernel
theorem dX4_endWaitingBlock_48 : decode cX4_endWaitingBlock 48 = .ok (.goto 19, 3) := by decide +kernel
theorem dX4_endWaitingBlock_51 : decode cX4_endWaitingBlock 51 = .ok (.aload_n 2, 1) := by decide +kernel
theorem dX4_endWaitingBlock_52 : decode cX4_endWaitingBlock 52 = .ok (.aload_n 1, 1) := by decide +kernel
theorem dX4_endWaitingBlock_53 : decode cX4_endWaitingBlock 53 = .ok (.getfield 323, 3) := by decide +kernel
theorem dX4_endWaitingBlock_56 : decode cX4_endWaitingBlock 56 = .ok (.putfield 320, 3) := by decide +kernel
theorem dX4_endWaitingBlock_59 : decode cX4_endWaitingBlock 59 = .ok (.aload_n 1, 1) := by decide +kernel
theorem dX4_endWaitingBlock_60 : decode cX4_endWaitingBlock 60 = .ok (.aload_n 2, 1) := by decide +kernel
theorem dX4_endWaitingBlock_61 : decode cX4_endWaitingBlock 61 = .ok (.invokevirtual 300, 3) := by decide +kernel
theorem dX4_endWaitingBlock_64 : decode cX4_endWaitingBlock 64 = .ok (.putfield 150, 3) := by decide +kernel
theorem dX4_endWaitingBlock_67 : decode cX4_endWaitingBlock 67 = .ok (.return_, 1) := by decide +kernel
theorem dX4_endHeldBlock_0 : decode cX4_endHeldBlock 0 = .ok (.aload_n 1, 1) := by decide +kernel
theorem dX4_endHeldBlock_1 : decode cX4_endHeldBlock 1 = .ok (.getfield 150, 3) := by decide +kernel
theorem dX4_endHeldBlock_4 : decode cX4_endHeldBlock 4 = .ok (.aload_n 0, 1) := by decide +kernel
theorem dX4_endHeldBlock_5 : decode cX4_endHeldBlock 5 = .ok (.bipush 10, 2) := by decide +kernel
theorem dX4_endHeldBlock_7 : decode cX4_endHeldBlock 7 = .ok (.iaload, 1) := by decide +kernel
theorem dX4_endHeldBlock_8 : decode cX4_endHeldBlock 8 = .ok (.iadd, 1) := by decide +kernel
theorem dX4_endHeldBlock_9 : decode cX4_endHeldBlock 9 = .ok (.istore_n 3, 1) := by decide +kernel
theorem dX4_endHeldBlock_10 : decode cX4_endHeldBlock 10 = .ok (.aload_n 1, 1) := by decide +kernel
theorem dX4_endHeldBlock_11 : decode cX4_endHeldBlock 11 = .ok (.getfield 98, 3) := by decide +kernel
theorem dX4_endHeldBlock_14 : decode cX4_endHeldBlock 14 = .ok (.ifCond .lt 33, 3) := by decide +kernel
theorem dX4_endHeldBlock_17 : decode cX4_endHeldBlock 17 = .ok (.aload_n 2, 1) := by decide +kernel
theorem dX4_endHeldBlock_18 : decode cX4_endHeldBlock 18 = .ok (.invokevirtual 342, 3) := by decide +kernel
theorem dX4_endHeldBlock_21 : decode cX4_endHeldBlock 21 = .ok (.aload_n 1, 1) := by decide +kernel
theorem dX4_endHeldBlock_22 : decode cX4_endHeldBlock 22 = .ok (.aload_n 1, 1) := by decide +kernel
theorem dX4_endHeldBlock_23 : decode cX4_endHeldBlock 23 = .ok (.getfield 98, 3) := by decide +kernel
theorem dX4_endHeldBlock_26 : decode cX4_endHeldBlock 26 = .ok (.putfield 203, 3) := by decide +kernel
theorem dX4_endHeldBlock_29 : decode cX4_endHeldBlock 29 = .ok (.aload_n 2, 1) := by decide +kernel
theorem dX4_endHeldBlock_30 : decode cX4_endHeldBlock 30 = .ok (.iload_n 3, 1) := by decide +kernel
theorem dX4_endHeldBlock_31 : decode cX4_endHeldBlock 31 = .ok (.aload_n 1, 1) := by decide +kernel
theorem dX4_endHeldBlock_32 : decode cX4_endHeldBlock 32 = .ok (.getfield 203, 3) := by decide +kernel
theorem dX4_endHeldBlock_35 : decode cX4_endHeldBlock 35 = .ok (.iadd, 1) := by decide +kernel
theorem dX4_endHeldBlock_36 : decode cX4_endHeldBlock 36 = .ok (.aload_n 0, 1) := by decide +kernel
theorem dX4_endHeldBlock_37 : decode cX4_endHeldBlock 37 = .ok (.bipush 12, 2) := by decide +kernel
theorem dX4_endHeldBlock_39 : decode cX4_endHeldBlock 39 = .ok (.iaload, 1) := by decide +kernel
theorem dX4_endHeldBlock_40 : decode cX4_endHeldBlock 40 = .ok (.iadd, 1) := by decide +kernel
theorem dX4_endHeldBlock_41 : decode cX4_endHeldBlock 41 = .ok (.putfield 326, 3) := by decide +kernel
theorem dX4_endHeldBlock_44 : decode cX4_endHeldBlock 44 = .ok (.goto 60, 3) := by decide +kernel
theorem dX4_endHeldBlock_47 : decode cX4_endHeldBlock 47 = .ok (.aload_n 0, 1) := by decide +kernel
theorem dX4_endHeldBlock_48 : decode cX4_endHeldBlock 48 = .ok (.bipush 12, 2) := by decide +kernel
theorem dX4_endHeldBlock_50 : decode cX4_endHeldBlock 50 = .ok (.iaload, 1) := by decide +kernel
theorem dX4_endHeldBlock_51 : decode cX4_endHeldBlock 51 = .ok (.ifCond .le 39, 3) := by decide +kernel
theorem dX4_endHeldBlock_54 : decode cX4_endHeldBlock 54 = .ok (.aload_n 2, 1) := by decide +kernel
theorem dX4_endHeldBlock_55 : decode cX4_endHeldBlock 55 = .ok (.invokevirtual 244, 3) := by decide +kernel
theorem dX4_endHeldBlock_58 : decode cX4_endHeldBlock 58 = .ok (.aload_n 1, 1) := by decide +kernel
theorem dX4_endHeldBlock_59 : decode cX4_endHeldBlock 59 = .ok (.iconst 0, 1) := by decide +kernel
theorem dX4_endHeldBlock_60 : decode cX4_endHeldBlock 60 = .ok (.aload_n 2, 1) := by decide +kernel
theorem dX4_endHeldBlock_61 : decode cX4_endHeldBlock 61 = .ok (.getfield 326, 3) := by decide +kernel
theorem dX4_endHeldBlock_64 : decode cX4_endHeldBlock 64 = .ok (.iload_n 3, 1) := by decide +kernel
theorem dX4_endHeldBlock_65 : decode cX4_endHeldBlock 65 = .ok (.isub, 1) := by decide +kernel
theorem dX4_endHeldBlock_66 : decode cX4_endHeldBlock 66 = .ok (.invokestatic 188, 3) := by decide +kernel
theorem dX4_endHeldBlock_69 : decode cX4_endHeldBlock 69 = .ok (.putfield 203, 3) := by decide +kernel
theorem dX4_endHeldBlock_72 : decode cX4_endHeldBlock 72 = .ok (.aload_n 2, 1) := by decide +kernel
theorem dX4_endHeldBlock_73 : decode cX4_endHeldBlock 73 = .ok (.iload_n 3, 1) := by decide +kernel
theorem dX4_endHeldBlock_74 : decode cX4_endHeldBlock 74 = .ok (.aload_n 1, 1) := by decide +kernel
theorem dX4_endHeldBlock_75 : decode cX4_endHeldBlock 75 = .ok (.getfield 203, 3) := by decide +kernel
theorem dX4_endHeldBlock_78 : decode cX4_endHeldBlock 78 = .ok (.iadd, 1) := by decide +kernel
theorem dX4_endHeldBlock_79 : decode cX4_endHeldBlock 79 = .ok (.aload_n 0, 1) := by decide +kernel
theorem dX4_endHeldBlock_80 : decode cX4_endHeldBlock 80 = .ok (.bipush 12, 2) := by decide +kernel
theorem dX4_endHeldBlock_82 : decode cX4_endHeldBlock 82 = .ok (.iaload, 1) := by decide +kernel
theorem dX4_endHeldBlock_83 : decode cX4_endHeldBlock 83 = .ok (.iadd, 1) := by decide +kernel
theorem dX4_endHeldBlock_84 : decode cX4_endHeldBlock 84 = .ok (.putfield 326, 3) := by decide +kernel
theorem dX4_endHeldBlock_87 : decode cX4_endHeldBlock 87 = .ok (.goto 17, 3) := by decide +kernel
theorem dX4_endHeldBlock_90 : decode cX4_endHeldBlock 90 = .ok (.aload_n 1, 1) := by decide +kernel
theorem dX4_endHeldBlock_91 : decode cX4_endHeldBlock 91 = .ok (.iconst 0, 1) := by decide +kernel
theorem dX4_endHeldBlock_92 : decode cX4_endHeldBlock 92 = .ok (.aload_n 2, 1) := by decide +kernel
theorem dX4_endHeldBlock_93 : decode cX4_endHeldBlock 93 = .ok (.getfield 326, 3) := by decide +kernel
theorem dX4_endHeldBlock_96 : decode cX4_endHeldBlock 96 = .ok (.iload_n 3, 1) := by decide +kernel
theorem dX4_endHeldBlock_97 : decode cX4_endHeldBlock 97 = .ok (.isub, 1) := by decide +kernel
theorem dX4_endHeldBlock_98 : decode cX4_endHeldBlock 98 = .ok (.invokestatic 188, 3) := by decide +kernel
theorem dX4_endHeldBlock_101 : decode cX4_endHeldBlock 101 = .ok (.putfield 203, 3) := by decide +kernel
theorem dX4_endHeldBlock_104 : decode cX4_endHeldBlock 104 = .ok (.return_, 1) := by decide +kernel
theorem dX4_hasThings_0 : decode cX4_hasThings 0 = .ok (.aload_n 0, 1) := by decide +kernel
theorem dX4_hasThings_1 : decode cX4_hasThings 1 = .ok (.astore_n 2, 1) := by decide +kernel
theorem dX4_hasThings_2 : decode cX4_hasThings 2 = .ok (.aload_n 2, 1) := by decide +kernel
theorem dX4_hasThings_3 : decode cX4_hasThings 3 = .ok (.ifnull 31, 3) := by decide +kernel
theorem dX4_hasThings_6 : decode cX4_hasThings 6 = .ok (.aload_n 2, 1) := by decide +kernel
theorem dX4_hasThings_7 : decode cX4_hasThings 7 = .ok (.getfield 59, 3) := by decide +kernel
theorem dX4_hasThings_10 : decode cX4_hasThings 10 = .ok (.getstatic 136, 3) := by decide +kernel
theorem dX4_hasThings_13 : decode cX4_hasThings 13 = .ok (.if_acmp .eq 10, 3) := by decide +kernel
theorem dX4_hasThings_16 : decode cX4_hasThings 16 = .ok (.aload_n 2, 1) := by decide +kernel
theorem dX4_hasThings_17 : decode cX4_hasThings 17 = .ok (.getfield 390, 3) := by decide +kernel
theorem dX4_hasThings_20 : decode cX4_hasThings 20 = .ok (.ifCond .le 5, 3) := by decide +kernel
theorem dX4_hasThings_23 : decode cX4_hasThings 23 = .ok (.iconst 1, 1) := by decide +kernel
theorem dX4_hasThings_24 : decode cX4_hasThings 24 = .ok (.ireturn, 1) := by decide +kernel
theorem dX4_hasThings_25 : decode cX4_hasThings 25 = .ok (.aload_n 2, 1) := by decide +kernel
theorem dX4_hasThings_26 : decode cX4_hasThings 26 = .ok (.aload_n 1, 1) := by decide +kernel
theorem dX4_hasThings_27 : decode cX4_hasThings 27 = .ok (.invokestatic 393, 3) := by decide +kernel
theorem dX4_hasThings_30 : decode cX4_hasThings 30 = .ok (.astore_n 2, 1) := by decide +kernel
theorem dX4_hasThings_31 : decode cX4_hasThings 31 = .ok (.goto (-29), 3) := by decide +kernel
theorem dX4_hasThings_34 : decode cX4_hasThings 34 = .ok (.iconst 0, 1) := by decide +kernel
theorem dX4_hasThings_35 : decode cX4_hasThings 35 = .ok (.ireturn, 1) := by decide +kernel
theorem dX4_flowWithoutLines_0 : decode cX4_flowWithoutLines 0 = .ok (.aload_n 2, 1) := by decide +kernel
theorem dX4_flowWithoutLines_1 : decode cX4_flowWithoutLines 1 = .ok (.astore 4, 2) := by decide +kernel
theorem dX4_flowWithoutLines_3 : decode cX4_flowWithoutLines 3 = .ok (.aload 4, 2) := by decide +kernel
theorem dX4_flowWithoutLines_5 : decode cX4_flowWithoutLines 5 = .ok (.ifnull 21, 3) := by decide +kernel
theorem dX4_flowWithoutLines_8 : decode cX4_flowWithoutLines 8 = .ok (.aload_n 0, 1) := by decide +kernel
theorem dX4_flowWithoutLines_9 : decode cX4_flowWithoutLines 9 = .ok (.aload 4, 2) := by decide +kernel
theorem dX4_flowWithoutLines_11 : decode cX4_flowWithoutLines 11 = .ok (.aload_n 1, 1) := by decide +kernel
theorem dX4_flowWithoutLines_12 : decode cX4_flowWithoutLines 12 = .ok (.invokevirtual 284, 3) := by decide +kernel
theorem dX4_flowWithoutLines_15 : decode cX4_flowWithoutLines 15 = .ok (.aload 4, 2) := by decide +kernel
theorem dX4_flowWithoutLines_17 : decode cX4_flowWithoutLines 17 = .ok (.aload_n 3, 1) := by decide +kernel
theorem dX4_flowWithoutLines_18 : decode cX4_flowWithoutLines 18 = .ok (.invokestatic 393, 3) := by decide +kernel
theorem dX4_flowWithoutLines_21 : decode cX4_flowWithoutLines 21 = .ok (.astore 4, 2) := by decide +kernel
theorem dX4_flowWithoutLines_23 : decode cX4_flowWithoutLines 23 = .ok (.goto (-20), 3) := by decide +kernel
theorem dX4_flowWithoutLines_26 : decode cX4_flowWithoutLines 26 = .ok (.return_, 1) := by decide +kernel
theorem dX4_flowLines_0 : decode cX4_flowLines 0 = .ok (.aload_n 2, 1) := by decide +kernel
theorem dX4_flowLines_1 : decode cX4_flowLines 1 = .ok (.invokevirtual 244, 3) := by decide +kernel
theorem dX4_flowLines_4 : decode cX4_flowLines 4 = .ok (.aload_n 3, 1) := by decide +kernel
theorem dX4_flowLines_5 : decode cX4_flowLines 5 = .ok (.astore 5, 2) := by decide +kernel
theorem dX4_flowLines_7 : decode cX4_flowLines 7 = .ok (.aload 5, 2) := by decide +kernel
theorem dX4_flowLines_9 : decode cX4_flowLines 9 = .ok (.ifnull 101, 3) := by decide +kernel
theorem dX4_flowLines_12 : decode cX4_flowLines 12 = .ok (.getstatic 397, 3) := by decide +kernel
theorem dX4_flowLines_15 : decode cX4_flowLines 15 = .ok (.aload 5, 2) := by decide +kernel
theorem dX4_flowLines_17 : decode cX4_flowLines 17 = .ok (.getfield 59, 3) := by decide +kernel
theorem dX4_flowLines_20 : decode cX4_flowLines 20 = .ok (.invokevirtual 402, 3) := by decide +kernel
theorem dX4_flowLines_23 : decode cX4_flowLines 23 = .ok (.iaload, 1) := by decide +kernel
theorem dX4_flowLines_24 : decode cX4_flowLines 24 = .ok (.tableswitch 74 4 7 #[32, 43, 54, 64], 32) := by decide +kernel
theorem dX4_flowLines_56 : decode cX4_flowLines 56 = .ok (.aload_n 0, 1) := by decide +kernel
theorem dX4_flowLines_57 : decode cX4_flowLines 57 = .ok (.aload_n 1, 1) := by decide +kernel
theorem dX4_flowLines_58 : decode cX4_flowLines 58 = .ok (.aload_n 2, 1) := by decide +kernel
theorem dX4_flowLines_59 : decode cX4_flowLines 59 = .ok (.aload 5, 2) := by decide +kernel
theorem dX4_flowLines_61 : decode cX4_flowLines 61 = .ok (.invokevirtual 405, 3) := by decide +kernel
theorem dX4_flowLines_64 : decode cX4_flowLines 64 = .ok (.goto 34, 3) := by decide +kernel
theorem dX4_flowLines_67 : decode cX4_flowLines 67 = .ok (.aload_n 0, 1) := by decide +kernel
theorem dX4_flowLines_68 : decode cX4_flowLines 68 = .ok (.aload_n 1, 1) := by decide +kernel
theorem dX4_flowLines_69 : decode cX4_flowLines 69 = .ok (.aload_n 2, 1) := by decide +kernel
theorem dX4_flowLines_70 : decode cX4_flowLines 70 = .ok (.aload 5, 2) := by decide +kernel
theorem dX4_flowLines_72 : decode cX4_flowLines 72 = .ok (.invokevirtual 409, 3) := by decide +kernel
theorem dX4_flowLines_75 : decode cX4_flowLines 75 = .ok (.goto 23, 3) := by decide +kernel
theorem dX4_flowLines_78 : decode cX4_flowLines 78 = .ok (.aload_n 0, 1) := by decide +kernel
theorem dX4_flowLines_79 : decode cX4_flowLines 79 = .ok (.aload_n 2, 1) := by decide +kernel
theorem dX4_flowLines_80 : decode cX4_flowLines 80 = .ok (.aload 5, 2) := by decide +kernel
theorem dX4_flowLines_82 : decode cX4_flowLines 82 = .ok (.invokevirtual 412, 3) := by decide +kernel
theorem dX4_flowLines_85 : decode cX4_flowLines 85 = .ok (.goto 13, 3) := by decide +kernel
theorem dX4_flowLines_88 : decode cX4_flowLines 88 = .ok (.aload_n 0, 1) := by decide +kernel
theorem dX4_flowLines_89 : decode cX4_flowLines 89 = .ok (.aload_n 2, 1) := by decide +kernel
theorem dX4_flowLines_90 : decode cX4_flowLines 90 = .ok (.aload 5, 2) := by decide +kernel
theorem dX4_flowLines_92 : decode cX4_flowLines 92 = .ok (.invokevirtual 416, 3) := by decide +kernel
theorem dX4_flowLines_95 : decode cX4_flowLines 95 = .ok (.goto 3, 3) := by decide +kernel
theorem dX4_flowLines_98 : decode cX4_flowLines 98 = .ok (.aload 5, 2) := by decide +kernel
theorem dX4_flowLines_100 : decode cX4_flowLines 100 = .ok (.aload 4, 2) := by decide +kernel
theorem dX4_flowLines_102 : decode cX4_flowLines 102 = .ok (.invokestatic 393, 3) := by decide +kernel
theorem dX4_flowLines_105 : decode cX4_flowLines 105 = .ok (.astore 5, 2) := by decide +kernel
theorem dX4_flowLines_107 : decode cX4_flowLines 107 = .ok (.goto (-100), 3) := by decide +kernel
theorem dX4_flowLines_110 : decode cX4_flowLines 110 = .ok (.aload_n 0, 1) := by decide +kernel
theorem dX4_flowLines_111 : decode cX4_flowLines 111 = .ok (.aload_n 2, 1) := by decide +kernel
theorem dX4_flowLines_112 : decode cX4_flowLines 112 = .ok (.invokevirtual 419, 3) := by decide +kernel
theorem dX4_flowLines_115 : decode cX4_flowLines 115 = .ok (.return_, 1) := by decide +kernel
theorem dX4_shiftOf_0 : decode cX4_shiftOf 0 = .ok (.aload_n 0, 1) := by decide +kernel
theorem dX4_shiftOf_1 : decode cX4_shiftOf 1 = .ok (.invokevirtual 122, 3) := by decide +kernel
theorem dX4_shiftOf_4 : decode cX4_shiftOf 4 = .ok (.ifCond .eq 7, 3) := by decide +kernel
theorem dX4_shiftOf_7 : decode cX4_shiftOf 7 = .ok (.iconst 0, 1) := by decide +kernel
theorem dX4_shiftOf_8 : decode cX4_shiftOf 8 = .ok (.goto 10, 3) := by decide +kernel
theorem dX4_shiftOf_11 : decode cX4_shiftOf 11 = .ok (.aload_n 0, 1) := by decide +kernel
theorem dX4_shiftOf_12 : decode cX4_shiftOf 12 = .ok (.getfield 128, 3) := by decide +kernel
theorem dX4_shiftOf_15 : decode cX4_shiftOf 15 = .ok (.bipush 16, 2) := by decide +kernel
theorem dX4_shiftOf_17 : decode cX4_shiftOf 17 = .ok (.iaload, 1) := by decide +kernel
theorem dX4_shiftOf_18 : decode cX4_shiftOf 18 = .ok (.istore_n 1, 1) := by decide +kernel
theorem dX4_shiftOf_19 : decode cX4_shiftOf 19 = .ok (.aload_n 0, 1) := by decide +kernel
theorem dX4_shiftOf_20 : decode cX4_shiftOf 20 = .ok (.getfield 75, 3) := by decide +kernel
theorem dX4_shiftOf_23 : decode cX4_shiftOf 23 = .ok (.astore_n 2, 1) := by decide +kernel
theorem dX4_shiftOf_24 : decode cX4_shiftOf 24 = .ok (.aload_n 2, 1) := by decide +kernel
theorem dX4_shiftOf_25 : decode cX4_shiftOf 25 = .ok (.ifnull 31, 3) := by decide +kernel
theorem dX4_shiftOf_28 : decode cX4_shiftOf 28 = .ok (.aload_n 2, 1) := by decide +kernel
theorem dX4_shiftOf_29 : decode cX4_shiftOf 29 = .ok (.getfield 59, 3) := by decide +kernel
theorem dX4_shiftOf_32 : decode cX4_shiftOf 32 = .ok (.getstatic 197, 3) := by decide +kernel
theorem dX4_shiftOf_35 : decode cX4_shiftOf 35 = .ok (.if_acmp .ne 21, 3) := by decide +kernel
theorem dX4_shiftOf_38 : decode cX4_shiftOf 38 = .ok (.iload_n 1, 1) := by decide +kernel
theorem dX4_shiftOf_39 : decode cX4_shiftOf 39 = .ok (.aload_n 2, 1) := by decide +kernel
theorem dX4_shiftOf_40 : decode cX4_shiftOf 40 = .ok (.getfield 128, 3) := by decide +kernel
theorem dX4_shiftOf_43 : decode cX4_shiftOf 43 = .ok (.bipush 16, 2) := by decide +kernel
theorem dX4_shiftOf_45 : decode cX4_shiftOf 45 = .ok (.iaload, 1) := by decide +kernel
theorem dX4_shiftOf_46 : decode cX4_shiftOf 46 = .ok (.iadd, 1) := by decide +kernel
theorem dX4_shiftOf_47 : decode cX4_shiftOf 47 = .ok (.istore_n 1, 1) := by decide +kernel
theorem dX4_shiftOf_48 : decode cX4_shiftOf 48 = .ok (.aload_n 2, 1) := by decide +kernel
theorem dX4_shiftOf_49 : decode cX4_shiftOf 49 = .ok (.getfield 75, 3) := by decide +kernel
theorem dX4_shiftOf_52 : decode cX4_shiftOf 52 = .ok (.astore_n 2, 1) := by decide +kernel
theorem dX4_shiftOf_53 : decode cX4_shiftOf 53 = .ok (.goto (-29), 3) := by decide +kernel
theorem dX4_shiftOf_56 : decode cX4_shiftOf 56 = .ok (.iload_n 1, 1) := by decide +kernel
theorem dX4_shiftOf_57 : decode cX4_shiftOf 57 = .ok (.ireturn, 1) := by decide +kernel
theorem dX4_addWords_0 : decode cX4_addWords 0 = .ok (.aload_n 0, 1) := by decide +kernel
theorem dX4_addWords_1 : decode cX4_addWords 1 = .ok (.aload_n 3, 1) := by decide +kernel
theorem dX4_addWords_2 : decode cX4_addWords 2 = .ok (.invokevirtual 35, 3) := by decide +kernel
theorem dX4_addWords_5 : decode cX4_addWords 5 = .ok (.astore 4, 2) := by decide +kernel
theorem dX4_addWords_7 : decode cX4_addWords 7 = .ok (.aload_n 3, 1) := by decide +kernel
theorem dX4_addWords_8 : decode cX4_addWords 8 = .ok (.getfield 423, 3) := by decide +kernel
theorem dX4_addWords_11 : decode cX4_addWords 11 = .ok (.iconst 3, 1) := by decide +kernel
theorem dX4_addWords_12 : decode cX4_addWords 12 = .ok (.imul, 1) := by decide +kernel
theorem dX4_addWords_13 : decode cX4_addWords 13 = .ok (.iconst 4, 1) := by decide +kernel
theorem dX4_addWords_14 : decode cX4_addWords 14 = .ok (.idiv, 1) := by decide +kernel
theorem dX4_addWords_15 : decode cX4_addWords 15 = .ok (.istore 5, 2) := by decide +kernel
theorem dX4_addWords_17 : decode cX4_addWords 17 = .ok (.aload_n 3, 1) := by decide +kernel
theorem dX4_addWords_18 : decode cX4_addWords 18 = .ok (.invokestatic 426, 3) := by decide +kernel
theorem dX4_addWords_21 : decode cX4_addWords 21 = .ok (.istore 6, 2) := by decide +kernel
theorem dX4_addWords_23 : decode cX4_addWords 23 = .ok (.iconst 0, 1) := by decide +kernel
theorem dX4_addWords_24 : decode cX4_addWords 24 = .ok (.istore 7, 2) := by decide +kernel
theorem dX4_addWords_26 : decode cX4_addWords 26 = .ok (.iload 7, 2) := by decide +kernel
theorem dX4_addWords_28 : decode cX4_addWords 28 = .ok (.aload_n 3, 1) := by decide +kernel
theorem dX4_addWords_29 : decode cX4_addWords 29 = .ok (.getfield 390, 3) := by decide +kernel
theorem dX4_addWords_32 : decode cX4_addWords 32 = .ok (.if_icmp .ge 109, 3) := by decide +kernel
theorem dX4_addWords_35 : decode cX4_addWords 35 = .ok (.aload 4, 2) := by decide +kernel
theorem dX4_addWords_37 : decode cX4_addWords 37 = .ok (.iconst 2, 1) := by decide +kernel
theorem dX4_addWords_38 : decode cX4_addWords 38 = .ok (.iload 7, 2) := by decide +kernel
theorem dX4_addWords_40 : decode cX4_addWords 40 = .ok (.imul, 1) := by decide +kernel
theorem dX4_addWords_41 : decode cX4_addWords 41 = .ok (.invokevirtual 156, 3) := by decide +kernel
theorem dX4_addWords_44 : decode cX4_addWords 44 = .ok (.astore 8, 2) := by decide +kernel
theorem dX4_addWords_46 : decode cX4_addWords 46 = .ok (.aload 4, 2) := by decide +kernel
theorem dX4_addWords_48 : decode cX4_addWords 48 = .ok (.iconst 2, 1) := by decide +kernel
theorem dX4_addWords_49 : decode cX4_addWords 49 = .ok (.iload 7, 2) := by decide +kernel
theorem dX4_addWords_51 : decode cX4_addWords 51 = .ok (.imul, 1) := by decide +kernel
theorem dX4_addWords_52 : decode cX4_addWords 52 = .ok (.iconst 1, 1) := by decide +kernel
theorem dX4_addWords_53 : decode cX4_addWords 53 = .ok (.iadd, 1) := by decide +kernel
theorem dX4_addWords_54 : decode cX4_addWords 54 = .ok (.invokevirtual 156, 3) := by decide +kernel
theorem dX4_addWords_57 : decode cX4_addWords 57 = .ok (.astore 9, 2) := by decide +kernel
theorem dX4_addWords_59 : decode cX4_addWords 59 = .ok (.aload 8, 2) := by decide +kernel
theorem dX4_addWords_61 : decode cX4_addWords 61 = .ok (.ifnull 74, 3) := by decide +kernel
theorem dX4_addWords_64 : decode cX4_addWords 64 = .ok (.aload 9, 2) := by decide +kernel
theorem dX4_addWords_66 : decode cX4_addWords 66 = .ok (.ifnull 69, 3) := by decide +kernel
theorem dX4_addWords_69 : decode cX4_addWords 69 = .ok (.aload 8, 2) := by decide +kernel
theorem dX4_addWords_71 : decode cX4_addWords 71 = .ok (.aload_n 3, 1) := by decide +kernel
theorem dX4_addWords_72 : decode cX4_addWords 72 = .ok (.getfield 429, 3) := by decide +kernel
theorem dX4_addWords_75 : decode cX4_addWords 75 = .ok (.iload 7, 2) := by decide +kernel
theorem dX4_addWords_77 : decode cX4_addWords 77 = .ok (.iaload, 1) := by decide +kernel
theorem dX4_addWords_78 : decode cX4_addWords 78 = .ok (.putfield 432, 3) := by decide +kernel
theorem dX4_addWords_81 : decode cX4_addWords 81 = .ok (.aload 8, 2) := by decide +kernel
theorem dX4_addWords_83 : decode cX4_addWords 83 = .ok (.iload 5, 2) := by decide +kernel
theorem dX4_addWords_85 : decode cX4_addWords 85 = .ok (.iload 6, 2) := by decide +kernel
theorem dX4_addWords_87 : decode cX4_addWords 87 = .ok (.iadd, 1) := by decide +kernel
theorem dX4_addWords_88 : decode cX4_addWords 88 = .ok (.putfield 435, 3) := by decide +kernel
theorem dX4_addWords_91 : decode cX4_addWords 91 = .ok (.aload 8, 2) := by decide +kernel
theorem dX4_addWords_93 : decode cX4_addWords 93 = .ok (.aload_n 3, 1) := by decide +kernel
theorem dX4_addWords_94 : decode cX4_addWords 94 = .ok (.getfield 423, 3) := by decide +kernel
theorem dX4_addWords_97 : decode cX4_addWords 97 = .ok (.iload 5, 2) := by decide +kernel
theorem dX4_addWords_99 : decode cX4_addWords 99 = .ok (.isub, 1) := by decide +kernel
theorem dX4_addWords_100 : decode cX4_addWords 100 = .ok (.iload 6, 2) := by decide +kernel
theorem dX4_addWords_102 : decode cX4_addWords 102 = .ok (.isub, 1) := by decide +kernel
theorem dX4_addWords_103 : decode cX4_addWords 103 = .ok (.putfield 438, 3) := by decide +kernel
theorem dX4_addWords_106 : decode cX4_addWords 106 = .ok (.aload 9, 2) := by decide +kernel
theorem dX4_addWords_108 : decode cX4_addWords 108 = .ok (.iconst 0, 1) := by decide +kernel
theorem dX4_addWords_109 : decode cX4_addWords 109 = .ok (.putfield 432, 3) := by decide +kernel
theorem dX4_addWords_112 : decode cX4_addWords 112 = .ok (.aload 9, 2) := by decide +kernel
theorem dX4_addWords_114 : decode cX4_addWords 114 = .ok (.aconst_null, 1) := by decide +kernel
theorem dX4_addWords_115 : decode cX4_addWords 115 = .ok (.putfield 441, 3) := by decide +kernel
theorem dX4_addWords_118 : decode cX4_addWords 118 = .ok (.aload_n 0, 1) := by decide +kernel
theorem dX4_addWords_119 : decode cX4_addWords 119 = .ok (.aload_n 1, 1) := by decide +kernel
theorem dX4_addWords_120 : decode cX4_addWords 120 = .ok (.aload_n 2, 1) := by decide +kernel
theorem dX4_addWords_121 : decode cX4_addWords 121 = .ok (.aload 8, 2) := by decide +kernel
theorem dX4_addWords_123 : decode cX4_addWords 123 = .ok (.aload 9, 2) := by decide +kernel
theorem dX4_addWords_125 : decode cX4_addWords 125 = .ok (.aload_n 3, 1) := by decide +kernel
theorem dX4_addWords_126 : decode cX4_addWords 126 = .ok (.getfield 445, 3) := by decide +kernel
theorem dX4_addWords_129 : decode cX4_addWords 129 = .ok (.iload 7, 2) := by decide +kernel
theorem dX4_addWords_131 : decode cX4_addWords 131 = .ok (.iaload, 1) := by decide +kernel
theorem dX4_addWords_132 : decode cX4_addWords 132 = .ok (.invokevirtual 448, 3) := by decide +kernel
theorem dX4_addWords_135 : decode cX4_addWords 135 = .ok (.iinc 7 1, 3) := by decide +kernel
theorem dX4_addWords_138 : decode cX4_addWords 138 = .ok (.goto (-112), 3) := by decide +kernel
theorem dX4_addWords_141 : decode cX4_addWords 141 = .ok (.return_, 1) := by decide +kernel
theorem dX4_addThing_0 : decode cX4_addThing 0 = .ok (.aload_n 3, 1) := by decide +kernel
theorem dX4_addThing_1 : decode cX4_addThing 1 = .ok (.astore 6, 2) := by decide +kernel
theorem dX4_addThing_3 : decode cX4_addThing 3 = .ok (.iload 5, 2) := by decide +kernel
theorem dX4_addThing_5 : decode cX4_addThing 5 = .ok (.ifCond .le 7, 3) := by decide +kernel
theorem dX4_addThing_8 : decode cX4_addThing 8 = .ok (.iconst 1, 1) := by decide +kernel
theorem dX4_addThing_9 : decode cX4_addThing 9 = .ok (.goto 4, 3) := by decide +kernel
theorem dX4_addThing_12 : decode cX4_addThing 12 = .ok (.iconst 0, 1) := by decide +kernel
theorem dX4_addThing_13 : decode cX4_addThing 13 = .ok (.istore 7, 2) := by decide +kernel
theorem dX4_addThing_15 : decode cX4_addThing 15 = .ok (.iconst 0, 1) := by decide +kernel
theorem dX4_addThing_16 : decode cX4_addThing 16 = .ok (.istore 8, 2) := by decide +kernel
theorem dX4_addThing_18 : decode cX4_addThing 18 = .ok (.iload 8, 2) := by decide +kernel
theorem dX4_addThing_20 : decode cX4_addThing 20 = .ok (.sipush 1000, 3) := by decide +kernel
theorem dX4_addThing_23 : decode cX4_addThing 23 = .ok (.if_icmp .ge 171, 3) := by decide +kernel
theorem dX4_addThing_26 : decode cX4_addThing 26 = .ok (.aload_n 2, 1) := by decide +kernel
theorem dX4_addThing_27 : decode cX4_addThing 27 = .ok (.getfield 458, 3) := by decide +kernel
theorem dX4_addThing_30 : decode cX4_addThing 30 = .ok (.ifCond .ne 15, 3) := by decide +kernel
theorem dX4_addThing_33 : decode cX4_addThing 33 = .ok (.aload_n 2, 1) := by decide +kernel
theorem dX4_addThing_34 : decode cX4_addThing 34 = .ok (.aload_n 2, 1) := by decide +kernel
theorem dX4_addThing_35 : decode cX4_addThing 35 = .ok (.getfield 326, 3) := by decide +kernel
theorem dX4_addThing_38 : decode cX4_addThing 38 = .ok (.aload_n 2, 1) := by decide +kernel
