theorem dX0_init_0 : decode cX0_init 0 = .ok (.aload_n 0, 1) := by decide +kernel
theorem dX0_init_1 : decode cX0_init 1 = .ok (.invokespecial 3, 3) := by decide +kernel
theorem dX0_init_4 : decode cX0_init 4 = .ok (.aload_n 0, 1) := by decide +kernel
theorem dX0_init_5 : decode cX0_init 5 = .ok (.bipush 43, 2) := by decide +kernel
theorem dX0_init_7 : decode cX0_init 7 = .ok (.anewarray 9, 3) := by decide +kernel
theorem dX0_init_10 : decode cX0_init 10 = .ok (.putfield 11, 3) := by decide +kernel
theorem dX0_init_13 : decode cX0_init 13 = .ok (.aload_n 0, 1) := by decide +kernel
theorem dX0_init_14 : decode cX0_init 14 = .ok (.bipush 43, 2) := by decide +kernel
theorem dX0_init_16 : decode cX0_init 16 = .ok (.newarray .long, 2) := by decide +kernel
theorem dX0_init_18 : decode cX0_init 18 = .ok (.putfield 17, 3) := by decide +kernel
theorem dX0_init_21 : decode cX0_init 21 = .ok (.aload_n 0, 1) := by decide +kernel
theorem dX0_init_22 : decode cX0_init 22 = .ok (.bipush 13, 2) := by decide +kernel
theorem dX0_init_24 : decode cX0_init 24 = .ok (.newarray .long, 2) := by decide +kernel
theorem dX0_init_26 : decode cX0_init 26 = .ok (.putfield 21, 3) := by decide +kernel
theorem dX0_init_29 : decode cX0_init 29 = .ok (.aload_n 0, 1) := by decide +kernel
theorem dX0_init_30 : decode cX0_init 30 = .ok (.bipush 13, 2) := by decide +kernel
theorem dX0_init_32 : decode cX0_init 32 = .ok (.newarray .long, 2) := by decide +kernel
theorem dX0_init_34 : decode cX0_init 34 = .ok (.putfield 24, 3) := by decide +kernel
theorem dX0_init_37 : decode cX0_init 37 = .ok (.aload_n 0, 1) := by decide +kernel
theorem dX0_init_38 : decode cX0_init 38 = .ok (.bipush 13, 2) := by decide +kernel
theorem dX0_init_40 : decode cX0_init 40 = .ok (.newarray .long, 2) := by decide +kernel
theorem dX0_init_42 : decode cX0_init 42 = .ok (.putfield 27, 3) := by decide +kernel
theorem dX0_init_45 : decode cX0_init 45 = .ok (.aload_n 0, 1) := by decide +kernel
theorem dX0_init_46 : decode cX0_init 46 = .ok (.iconst 0, 1) := by decide +kernel
theorem dX0_init_47 : decode cX0_init 47 = .ok (.putfield 30, 3) := by decide +kernel
theorem dX0_init_50 : decode cX0_init 50 = .ok (.aload_n 0, 1) := by decide +kernel
theorem dX0_init_51 : decode cX0_init 51 = .ok (.lconst 0, 1) := by decide +kernel
theorem dX0_init_52 : decode cX0_init 52 = .ok (.putfield 34, 3) := by decide +kernel
theorem dX0_init_55 : decode cX0_init 55 = .ok (.aload_n 0, 1) := by decide +kernel
theorem dX0_init_56 : decode cX0_init 56 = .ok (.getfield 21, 3) := by decide +kernel
theorem dX0_init_59 : decode cX0_init 59 = .ok (.iconst 1, 1) := by decide +kernel
theorem dX0_init_60 : decode cX0_init 60 = .ok (.lconst 1, 1) := by decide +kernel
theorem dX0_init_61 : decode cX0_init 61 = .ok (.lastore, 1) := by decide +kernel
theorem dX0_init_62 : decode cX0_init 62 = .ok (.aload_n 0, 1) := by decide +kernel
theorem dX0_init_63 : decode cX0_init 63 = .ok (.iconst 0, 1) := by decide +kernel
theorem dX0_init_64 : decode cX0_init 64 = .ok (.iconst 1, 1) := by decide +kernel
theorem dX0_init_65 : decode cX0_init 65 = .ok (.invokevirtual 38, 3) := by decide +kernel
theorem dX0_init_68 : decode cX0_init 68 = .ok (.iconst 1, 1) := by decide +kernel
theorem dX0_init_69 : decode cX0_init 69 = .ok (.istore_n 1, 1) := by decide +kernel
theorem dX0_init_70 : decode cX0_init 70 = .ok (.iload_n 1, 1) := by decide +kernel
theorem dX0_init_71 : decode cX0_init 71 = .ok (.bipush 42, 2) := by decide +kernel
theorem dX0_init_73 : decode cX0_init 73 = .ok (.if_icmp .gt 27, 3) := by decide +kernel
theorem dX0_init_76 : decode cX0_init 76 = .ok (.aload_n 0, 1) := by decide +kernel
theorem dX0_init_77 : decode cX0_init 77 = .ok (.iload_n 1, 1) := by decide +kernel
theorem dX0_init_78 : decode cX0_init 78 = .ok (.invokevirtual 42, 3) := by decide +kernel
theorem dX0_init_81 : decode cX0_init 81 = .ok (.istore_n 2, 1) := by decide +kernel
theorem dX0_init_82 : decode cX0_init 82 = .ok (.iload_n 2, 1) := by decide +kernel
theorem dX0_init_83 : decode cX0_init 83 = .ok (.bipush 12, 2) := by decide +kernel
theorem dX0_init_85 : decode cX0_init 85 = .ok (.if_icmp .gt 9, 3) := by decide +kernel
theorem dX0_init_88 : decode cX0_init 88 = .ok (.aload_n 0, 1) := by decide +kernel
theorem dX0_init_89 : decode cX0_init 89 = .ok (.iload_n 1, 1) := by decide +kernel
theorem dX0_init_90 : decode cX0_init 90 = .ok (.iload_n 2, 1) := by decide +kernel
theorem dX0_init_91 : decode cX0_init 91 = .ok (.invokevirtual 38, 3) := by decide +kernel
theorem dX0_init_94 : decode cX0_init 94 = .ok (.iinc 1 1, 3) := by decide +kernel
theorem dX0_init_97 : decode cX0_init 97 = .ok (.goto (-27), 3) := by decide +kernel
theorem dX0_init_100 : decode cX0_init 100 = .ok (.return_, 1) := by decide +kernel
theorem dX0_divisor_0 : decode cX0_divisor 0 = .ok (.iload_n 1, 1) := by decide +kernel
theorem dX0_divisor_1 : decode cX0_divisor 1 = .ok (.ifCond .lt 21, 3) := by decide +kernel
theorem dX0_divisor_4 : decode cX0_divisor 4 = .ok (.iload_n 1, 1) := by decide +kernel
theorem dX0_divisor_5 : decode cX0_divisor 5 = .ok (.aload_n 0, 1) := by decide +kernel
theorem dX0_divisor_6 : decode cX0_divisor 6 = .ok (.getfield 11, 3) := by decide +kernel
theorem dX0_divisor_9 : decode cX0_divisor 9 = .ok (.arraylength, 1) := by decide +kernel
theorem dX0_divisor_10 : decode cX0_divisor 10 = .ok (.if_icmp .ge 12, 3) := by decide +kernel
theorem dX0_divisor_13 : decode cX0_divisor 13 = .ok (.aload_n 0, 1) := by decide +kernel
theorem dX0_divisor_14 : decode cX0_divisor 14 = .ok (.getfield 11, 3) := by decide +kernel
theorem dX0_divisor_17 : decode cX0_divisor 17 = .ok (.iload_n 1, 1) := by decide +kernel
theorem dX0_divisor_18 : decode cX0_divisor 18 = .ok (.aaload, 1) := by decide +kernel
theorem dX0_divisor_19 : decode cX0_divisor 19 = .ok (.goto 4, 3) := by decide +kernel
theorem dX0_divisor_22 : decode cX0_divisor 22 = .ok (.aconst_null, 1) := by decide +kernel
theorem dX0_divisor_23 : decode cX0_divisor 23 = .ok (.areturn, 1) := by decide +kernel
theorem dX0_begin_0 : decode cX0_begin 0 = .ok (.aload_n 1, 1) := by decide +kernel
theorem dX0_begin_1 : decode cX0_begin 1 = .ok (.aload_n 0, 1) := by decide +kernel
theorem dX0_begin_2 : decode cX0_begin 2 = .ok (.getfield 21, 3) := by decide +kernel
theorem dX0_begin_5 : decode cX0_begin 5 = .ok (.invokevirtual 46, 3) := by decide +kernel
theorem dX0_begin_8 : decode cX0_begin 8 = .ok (.aload_n 0, 1) := by decide +kernel
theorem dX0_begin_9 : decode cX0_begin 9 = .ok (.aload_n 1, 1) := by decide +kernel
theorem dX0_begin_10 : decode cX0_begin 10 = .ok (.getfield 50, 3) := by decide +kernel
theorem dX0_begin_13 : decode cX0_begin 13 = .ok (.putfield 30, 3) := by decide +kernel
theorem dX0_begin_16 : decode cX0_begin 16 = .ok (.aload_n 0, 1) := by decide +kernel
theorem dX0_begin_17 : decode cX0_begin 17 = .ok (.aload_n 0, 1) := by decide +kernel
theorem dX0_begin_18 : decode cX0_begin 18 = .ok (.getfield 21, 3) := by decide +kernel
theorem dX0_begin_21 : decode cX0_begin 21 = .ok (.aload_n 0, 1) := by decide +kernel
theorem dX0_begin_22 : decode cX0_begin 22 = .ok (.getfield 30, 3) := by decide +kernel
theorem dX0_begin_25 : decode cX0_begin 25 = .ok (.invokestatic 53, 3) := by decide +kernel
theorem dX0_begin_28 : decode cX0_begin 28 = .ok (.putfield 34, 3) := by decide +kernel
theorem dX0_begin_31 : decode cX0_begin 31 = .ok (.return_, 1) := by decide +kernel
theorem dX0_beginRow_0 : decode cX0_beginRow 0 = .ok (.aload_n 0, 1) := by decide +kernel
theorem dX0_beginRow_1 : decode cX0_beginRow 1 = .ok (.iconst 0, 1) := by decide +kernel
theorem dX0_beginRow_2 : decode cX0_beginRow 2 = .ok (.iload_n 2, 1) := by decide +kernel
theorem dX0_beginRow_3 : decode cX0_beginRow 3 = .ok (.aload_n 1, 1) := by decide +kernel
theorem dX0_beginRow_4 : decode cX0_beginRow 4 = .ok (.arraylength, 1) := by decide +kernel
theorem dX0_beginRow_5 : decode cX0_beginRow 5 = .ok (.bipush 13, 2) := by decide +kernel
theorem dX0_beginRow_7 : decode cX0_beginRow 7 = .ok (.invokestatic 57, 3) := by decide +kernel
theorem dX0_beginRow_10 : decode cX0_beginRow 10 = .ok (.iconst 1, 1) := by decide +kernel
theorem dX0_beginRow_11 : decode cX0_beginRow 11 = .ok (.isub, 1) := by decide +kernel
theorem dX0_beginRow_12 : decode cX0_beginRow 12 = .ok (.invokestatic 57, 3) := by decide +kernel
theorem dX0_beginRow_15 : decode cX0_beginRow 15 = .ok (.invokestatic 63, 3) := by decide +kernel
theorem dX0_beginRow_18 : decode cX0_beginRow 18 = .ok (.putfield 30, 3) := by decide +kernel
theorem dX0_beginRow_21 : decode cX0_beginRow 21 = .ok (.aload_n 1, 1) := by decide +kernel
theorem dX0_beginRow_22 : decode cX0_beginRow 22 = .ok (.iconst 0, 1) := by decide +kernel
theorem dX0_beginRow_23 : decode cX0_beginRow 23 = .ok (.aload_n 0, 1) := by decide +kernel
theorem dX0_beginRow_24 : decode cX0_beginRow 24 = .ok (.getfield 21, 3) := by decide +kernel
theorem dX0_beginRow_27 : decode cX0_beginRow 27 = .ok (.iconst 0, 1) := by decide +kernel
theorem dX0_beginRow_28 : decode cX0_beginRow 28 = .ok (.aload_n 0, 1) := by decide +kernel
theorem dX0_beginRow_29 : decode cX0_beginRow 29 = .ok (.getfield 30, 3) := by decide +kernel
theorem dX0_beginRow_32 : decode cX0_beginRow 32 = .ok (.iconst 1, 1) := by decide +kernel
theorem dX0_beginRow_33 : decode cX0_beginRow 33 = .ok (.iadd, 1) := by decide +kernel
theorem dX0_beginRow_34 : decode cX0_beginRow 34 = .ok (.invokestatic 66, 3) := by decide +kernel
theorem dX0_beginRow_37 : decode cX0_beginRow 37 = .ok (.aload_n 0, 1) := by decide +kernel
theorem dX0_beginRow_38 : decode cX0_beginRow 38 = .ok (.aload_n 0, 1) := by decide +kernel
theorem dX0_beginRow_39 : decode cX0_beginRow 39 = .ok (.getfield 21, 3) := by decide +kernel
theorem dX0_beginRow_42 : decode cX0_beginRow 42 = .ok (.aload_n 0, 1) := by decide +kernel
theorem dX0_beginRow_43 : decode cX0_beginRow 43 = .ok (.getfield 30, 3) := by decide +kernel
theorem dX0_beginRow_46 : decode cX0_beginRow 46 = .ok (.invokestatic 53, 3) := by decide +kernel
theorem dX0_beginRow_49 : decode cX0_beginRow 49 = .ok (.putfield 34, 3) := by decide +kernel
theorem dX0_beginRow_52 : decode cX0_beginRow 52 = .ok (.return_, 1) := by decide +kernel
theorem dX0_isOne_0 : decode cX0_isOne 0 = .ok (.aload_n 0, 1) := by decide +kernel
theorem dX0_isOne_1 : decode cX0_isOne 1 = .ok (.getfield 21, 3) := by decide +kernel
theorem dX0_isOne_4 : decode cX0_isOne 4 = .ok (.aload_n 0, 1) := by decide +kernel
theorem dX0_isOne_5 : decode cX0_isOne 5 = .ok (.getfield 30, 3) := by decide +kernel
theorem dX0_isOne_8 : decode cX0_isOne 8 = .ok (.laload, 1) := by decide +kernel
theorem dX0_isOne_9 : decode cX0_isOne 9 = .ok (.invokestatic 72, 3) := by decide +kernel
theorem dX0_isOne_12 : decode cX0_isOne 12 = .ok (.lconst 1, 1) := by decide +kernel
theorem dX0_isOne_13 : decode cX0_isOne 13 = .ok (.lcmp, 1) := by decide +kernel
theorem dX0_isOne_14 : decode cX0_isOne 14 = .ok (.ifCond .eq 5, 3) := by decide +kernel
theorem dX0_isOne_17 : decode cX0_isOne 17 = .ok (.iconst 0, 1) := by decide +kernel
theorem dX0_isOne_18 : decode cX0_isOne 18 = .ok (.ireturn, 1) := by decide +kernel
theorem dX0_isOne_19 : decode cX0_isOne 19 = .ok (.aload_n 0, 1) := by decide +kernel
theorem dX0_isOne_20 : decode cX0_isOne 20 = .ok (.invokevirtual 76, 3) := by decide +kernel
theorem dX0_isOne_23 : decode cX0_isOne 23 = .ok (.aload_n 0, 1) := by decide +kernel
theorem dX0_isOne_24 : decode cX0_isOne 24 = .ok (.getfield 30, 3) := by decide +kernel
theorem dX0_isOne_27 : decode cX0_isOne 27 = .ok (.ifCond .ne 7, 3) := by decide +kernel
theorem dX0_isOne_30 : decode cX0_isOne 30 = .ok (.iconst 1, 1) := by decide +kernel
theorem dX0_isOne_31 : decode cX0_isOne 31 = .ok (.goto 4, 3) := by decide +kernel
theorem dX0_isOne_34 : decode cX0_isOne 34 = .ok (.iconst 0, 1) := by decide +kernel
theorem dX0_isOne_35 : decode cX0_isOne 35 = .ok (.ireturn, 1) := by decide +kernel
theorem dX0_divideAllOut_0 : decode cX0_divideAllOut 0 = .ok (.iconst 0, 1) := by decide +kernel
theorem dX0_divideAllOut_1 : decode cX0_divideAllOut 1 = .ok (.istore_n 1, 1) := by decide +kernel
theorem dX0_divideAllOut_2 : decode cX0_divideAllOut 2 = .ok (.iconst 0, 1) := by decide +kernel
theorem dX0_divideAllOut_3 : decode cX0_divideAllOut 3 = .ok (.istore_n 2, 1) := by decide +kernel
theorem dX0_divideAllOut_4 : decode cX0_divideAllOut 4 = .ok (.iload_n 2, 1) := by decide +kernel
theorem dX0_divideAllOut_5 : decode cX0_divideAllOut 5 = .ok (.bipush 54, 2) := by decide +kernel
theorem dX0_divideAllOut_7 : decode cX0_divideAllOut 7 = .ok (.if_icmp .gt 75, 3) := by decide +kernel
theorem dX0_divideAllOut_10 : decode cX0_divideAllOut 10 = .ok (.iload_n 1, 1) := by decide +kernel
theorem dX0_divideAllOut_11 : decode cX0_divideAllOut 11 = .ok (.bipush 42, 2) := by decide +kernel
theorem dX0_divideAllOut_13 : decode cX0_divideAllOut 13 = .ok (.if_icmp .gt 69, 3) := by decide +kernel
theorem dX0_divideAllOut_16 : decode cX0_divideAllOut 16 = .ok (.aload_n 0, 1) := by decide +kernel
theorem dX0_divideAllOut_17 : decode cX0_divideAllOut 17 = .ok (.getfield 30, 3) := by decide +kernel
theorem dX0_divideAllOut_20 : decode cX0_divideAllOut 20 = .ok (.ifCond .le 62, 3) := by decide +kernel
theorem dX0_divideAllOut_23 : decode cX0_divideAllOut 23 = .ok (.aload_n 0, 1) := by decide +kernel
theorem dX0_divideAllOut_24 : decode cX0_divideAllOut 24 = .ok (.getfield 17, 3) := by decide +kernel
theorem dX0_divideAllOut_27 : decode cX0_divideAllOut 27 = .ok (.iload_n 1, 1) := by decide +kernel
theorem dX0_divideAllOut_28 : decode cX0_divideAllOut 28 = .ok (.laload, 1) := by decide +kernel
theorem dX0_divideAllOut_29 : decode cX0_divideAllOut 29 = .ok (.lconst 0, 1) := by decide +kernel
theorem dX0_divideAllOut_30 : decode cX0_divideAllOut 30 = .ok (.lcmp, 1) := by decide +kernel
theorem dX0_divideAllOut_31 : decode cX0_divideAllOut 31 = .ok (.ifCond .eq 23, 3) := by decide +kernel
theorem dX0_divideAllOut_34 : decode cX0_divideAllOut 34 = .ok (.aload_n 0, 1) := by decide +kernel
theorem dX0_divideAllOut_35 : decode cX0_divideAllOut 35 = .ok (.getfield 34, 3) := by decide +kernel
theorem dX0_divideAllOut_38 : decode cX0_divideAllOut 38 = .ok (.aload_n 0, 1) := by decide +kernel
theorem dX0_divideAllOut_39 : decode cX0_divideAllOut 39 = .ok (.getfield 17, 3) := by decide +kernel
theorem dX0_divideAllOut_42 : decode cX0_divideAllOut 42 = .ok (.iload_n 1, 1) := by decide +kernel
theorem dX0_divideAllOut_43 : decode cX0_divideAllOut 43 = .ok (.laload, 1) := by decide +kernel
theorem dX0_divideAllOut_44 : decode cX0_divideAllOut 44 = .ok (.lrem, 1) := by decide +kernel
theorem dX0_divideAllOut_45 : decode cX0_divideAllOut 45 = .ok (.lconst 0, 1) := by decide +kernel
theorem dX0_divideAllOut_46 : decode cX0_divideAllOut 46 = .ok (.lcmp, 1) := by decide +kernel
theorem dX0_divideAllOut_47 : decode cX0_divideAllOut 47 = .ok (.ifCond .ne 7, 3) := by decide +kernel
theorem dX0_divideAllOut_50 : decode cX0_divideAllOut 50 = .ok (.iconst 1, 1) := by decide +kernel
theorem dX0_divideAllOut_51 : decode cX0_divideAllOut 51 = .ok (.goto 4, 3) := by decide +kernel
theorem dX0_divideAllOut_54 : decode cX0_divideAllOut 54 = .ok (.iconst 0, 1) := by decide +kernel
theorem dX0_divideAllOut_55 : decode cX0_divideAllOut 55 = .ok (.istore_n 3, 1) := by decide +kernel
theorem dX0_divideAllOut_56 : decode cX0_divideAllOut 56 = .ok (.iload_n 1, 1) := by decide +kernel
theorem dX0_divideAllOut_57 : decode cX0_divideAllOut 57 = .ok (.iload_n 3, 1) := by decide +kernel
theorem dX0_divideAllOut_58 : decode cX0_divideAllOut 58 = .ok (.ifCond .eq 15, 3) := by decide +kernel
theorem dX0_divideAllOut_61 : decode cX0_divideAllOut 61 = .ok (.aload_n 0, 1) := by decide +kernel
theorem dX0_divideAllOut_62 : decode cX0_divideAllOut 62 = .ok (.iload_n 1, 1) := by decide +kernel
theorem dX0_divideAllOut_63 : decode cX0_divideAllOut 63 = .ok (.invokevirtual 79, 3) := by decide +kernel
theorem dX0_divideAllOut_66 : decode cX0_divideAllOut 66 = .ok (.ifCond .eq 7, 3) := by decide +kernel
theorem dX0_divideAllOut_69 : decode cX0_divideAllOut 69 = .ok (.iconst 0, 1) := by decide +kernel
theorem dX0_divideAllOut_70 : decode cX0_divideAllOut 70 = .ok (.goto 4, 3) := by decide +kernel
theorem dX0_divideAllOut_73 : decode cX0_divideAllOut 73 = .ok (.iconst 1, 1) := by decide +kernel
theorem dX0_divideAllOut_74 : decode cX0_divideAllOut 74 = .ok (.iadd, 1) := by decide +kernel
theorem dX0_divideAllOut_75 : decode cX0_divideAllOut 75 = .ok (.istore_n 1, 1) := by decide +kernel
theorem dX0_divideAllOut_76 : decode cX0_divideAllOut 76 = .ok (.iinc 2 1, 3) := by decide +kernel
theorem dX0_divideAllOut_79 : decode cX0_divideAllOut 79 = .ok (.goto (-75), 3) := by decide +kernel
theorem dX0_divideAllOut_82 : decode cX0_divideAllOut 82 = .ok (.return_, 1) := by decide +kernel
theorem dX0_divideOut_0 : decode cX0_divideOut 0 = .ok (.iconst 0, 1) := by decide +kernel
theorem dX0_divideOut_1 : decode cX0_divideOut 1 = .ok (.istore_n 2, 1) := by decide +kernel
theorem dX0_divideOut_2 : decode cX0_divideOut 2 = .ok (.iload_n 2, 1) := by decide +kernel
theorem dX0_divideOut_3 : decode cX0_divideOut 3 = .ok (.bipush 12, 2) := by decide +kernel
theorem dX0_divideOut_5 : decode cX0_divideOut 5 = .ok (.if_icmp .ge 17, 3) := by decide +kernel
theorem dX0_divideOut_8 : decode cX0_divideOut 8 = .ok (.aload_n 0, 1) := by decide +kernel
theorem dX0_divideOut_9 : decode cX0_divideOut 9 = .ok (.iload_n 1, 1) := by decide +kernel
theorem dX0_divideOut_10 : decode cX0_divideOut 10 = .ok (.invokevirtual 79, 3) := by decide +kernel
theorem dX0_divideOut_13 : decode cX0_divideOut 13 = .ok (.ifCond .eq 9, 3) := by decide +kernel
theorem dX0_divideOut_16 : decode cX0_divideOut 16 = .ok (.iinc 2 1, 3) := by decide +kernel
theorem dX0_divideOut_19 : decode cX0_divideOut 19 = .ok (.goto (-17), 3) := by decide +kernel
theorem dX0_divideOut_22 : decode cX0_divideOut 22 = .ok (.iload_n 2, 1) := by decide +kernel
theorem dX0_divideOut_23 : decode cX0_divideOut 23 = .ok (.ireturn, 1) := by decide +kernel
theorem dX0_writeCore_0 : decode cX0_writeCore 0 = .ok (.aload_n 1, 1) := by decide +kernel
theorem dX0_writeCore_1 : decode cX0_writeCore 1 = .ok (.lconst 0, 1) := by decide +kernel
theorem dX0_writeCore_2 : decode cX0_writeCore 2 = .ok (.invokestatic 83, 3) := by decide +kernel
theorem dX0_writeCore_5 : decode cX0_writeCore 5 = .ok (.aload_n 0, 1) := by decide +kernel
theorem dX0_writeCore_6 : decode cX0_writeCore 6 = .ok (.getfield 21, 3) := by decide +kernel
theorem dX0_writeCore_9 : decode cX0_writeCore 9 = .ok (.aload_n 0, 1) := by decide +kernel
theorem dX0_writeCore_10 : decode cX0_writeCore 10 = .ok (.getfield 30, 3) := by decide +kernel
theorem dX0_writeCore_13 : decode cX0_writeCore 13 = .ok (.laload, 1) := by decide +kernel
theorem dX0_writeCore_14 : decode cX0_writeCore 14 = .ok (.lconst 0, 1) := by decide +kernel
theorem dX0_writeCore_15 : decode cX0_writeCore 15 = .ok (.lcmp, 1) := by decide +kernel
theorem dX0_writeCore_16 : decode cX0_writeCore 16 = .ok (.ifCond .ge 7, 3) := by decide +kernel
theorem dX0_writeCore_19 : decode cX0_writeCore 19 = .ok (.iconst 1, 1) := by decide +kernel
theorem dX0_writeCore_20 : decode cX0_writeCore 20 = .ok (.goto 4, 3) := by decide +kernel
theorem dX0_writeCore_23 : decode cX0_writeCore 23 = .ok (.iconst 0, 1) := by decide +kernel
theorem dX0_writeCore_24 : decode cX0_writeCore 24 = .ok (.istore_n 2, 1) := by decide +kernel
theorem dX0_writeCore_25 : decode cX0_writeCore 25 = .ok (.iconst 0, 1) := by decide +kernel
theorem dX0_writeCore_26 : decode cX0_writeCore 26 = .ok (.istore_n 3, 1) := by decide +kernel
theorem dX0_writeCore_27 : decode cX0_writeCore 27 = .ok (.iload_n 3, 1) := by decide +kernel
theorem dX0_writeCore_28 : decode cX0_writeCore 28 = .ok (.aload_n 0, 1) := by decide +kernel
theorem dX0_writeCore_29 : decode cX0_writeCore 29 = .ok (.getfield 30, 3) := by decide +kernel
theorem dX0_writeCore_32 : decode cX0_writeCore 32 = .ok (.if_icmp .gt 38, 3) := by decide +kernel
theorem dX0_writeCore_35 : decode cX0_writeCore 35 = .ok (.iload_n 3, 1) := by decide +kernel
theorem dX0_writeCore_36 : decode cX0_writeCore 36 = .ok (.aload_n 1, 1) := by decide +kernel
theorem dX0_writeCore_37 : decode cX0_writeCore 37 = .ok (.arraylength, 1) := by decide +kernel
theorem dX0_writeCore_38 : decode cX0_writeCore 38 = .ok (.if_icmp .ge 32, 3) := by decide +kernel
theorem dX0_writeCore_41 : decode cX0_writeCore 41 = .ok (.aload_n 1, 1) := by decide +kernel
theorem dX0_writeCore_42 : decode cX0_writeCore 42 = .ok (.iload_n 3, 1) := by decide +kernel
theorem dX0_writeCore_43 : decode cX0_writeCore 43 = .ok (.iload_n 2, 1) := by decide +kernel
theorem dX0_writeCore_44 : decode cX0_writeCore 44 = .ok (.ifCond .eq 13, 3) := by decide +kernel
theorem dX0_writeCore_47 : decode cX0_writeCore 47 = .ok (.aload_n 0, 1) := by decide +kernel
theorem dX0_writeCore_48 : decode cX0_writeCore 48 = .ok (.getfield 21, 3) := by decide +kernel
theorem dX0_writeCore_51 : decode cX0_writeCore 51 = .ok (.iload_n 3, 1) := by decide +kernel
theorem dX0_writeCore_52 : decode cX0_writeCore 52 = .ok (.laload, 1) := by decide +kernel
theorem dX0_writeCore_53 : decode cX0_writeCore 53 = .ok (.lneg, 1) := by decide +kernel
theorem dX0_writeCore_54 : decode cX0_writeCore 54 = .ok (.goto 9, 3) := by decide +kernel
theorem dX0_writeCore_57 : decode cX0_writeCore 57 = .ok (.aload_n 0, 1) := by decide +kernel
theorem dX0_writeCore_58 : decode cX0_writeCore 58 = .ok (.getfield 21, 3) := by decide +kernel
theorem dX0_writeCore_61 : decode cX0_writeCore 61 = .ok (.iload_n 3, 1) := by decide +kernel
theorem dX0_writeCore_62 : decode cX0_writeCore 62 = .ok (.laload, 1) := by decide +kernel
theorem dX0_writeCore_63 : decode cX0_writeCore 63 = .ok (.lastore, 1) := by decide +kernel
theorem dX0_writeCore_64 : decode cX0_writeCore 64 = .ok (.iinc 3 1, 3) := by decide +kernel
theorem dX0_writeCore_67 : decode cX0_writeCore 67 = .ok (.goto (-40), 3) := by decide +kernel
theorem dX0_writeCore_70 : decode cX0_writeCore 70 = .ok (.return_, 1) := by decide +kernel
theorem dX0_isDividedBy_0 : decode cX0_isDividedBy 0 = .ok (.aload_n 0, 1) := by decide +kernel
theorem dX0_isDividedBy_1 : decode cX0_isDividedBy 1 = .ok (.iload_n 1, 1) := by decide +kernel
theorem dX0_isDividedBy_2 : decode cX0_isDividedBy 2 = .ok (.invokevirtual 89, 3) := by decide +kernel
theorem dX0_isDividedBy_5 : decode cX0_isDividedBy 5 = .ok (.astore_n 2, 1) := by decide +kernel
theorem dX0_isDividedBy_6 : decode cX0_isDividedBy 6 = .ok (.aload_n 2, 1) := by decide +kernel
theorem dX0_isDividedBy_7 : decode cX0_isDividedBy 7 = .ok (.ifnull 25, 3) := by decide +kernel
theorem dX0_isDividedBy_10 : decode cX0_isDividedBy 10 = .ok (.aload_n 2, 1) := by decide +kernel
theorem dX0_isDividedBy_11 : decode cX0_isDividedBy 11 = .ok (.getfield 50, 3) := by decide +kernel
theorem dX0_isDividedBy_14 : decode cX0_isDividedBy 14 = .ok (.aload_n 0, 1) := by decide +kernel
theorem dX0_isDividedBy_15 : decode cX0_isDividedBy 15 = .ok (.getfield 30, 3) := by decide +kernel
theorem dX0_isDividedBy_18 : decode cX0_isDividedBy 18 = .ok (.if_icmp .gt 14, 3) := by decide +kernel
theorem dX0_isDividedBy_21 : decode cX0_isDividedBy 21 = .ok (.aload_n 0, 1) := by decide +kernel
theorem dX0_isDividedBy_22 : decode cX0_isDividedBy 22 = .ok (.getfield 17, 3) := by decide +kernel
theorem dX0_isDividedBy_25 : decode cX0_isDividedBy 25 = .ok (.iload_n 1, 1) := by decide +kernel
theorem dX0_isDividedBy_26 : decode cX0_isDividedBy 26 = .ok (.laload, 1) := by decide +kernel
theorem dX0_isDividedBy_27 : decode cX0_isDividedBy 27 = .ok (.lconst 0, 1) := by decide +kernel
theorem dX0_isDividedBy_28 : decode cX0_isDividedBy 28 = .ok (.lcmp, 1) := by decide +kernel
theorem dX0_isDividedBy_29 : decode cX0_isDividedBy 29 = .ok (.ifCond .ne 5, 3) := by decide +kernel
theorem dX0_isDividedBy_32 : decode cX0_isDividedBy 32 = .ok (.iconst 0, 1) := by decide +kernel
theorem dX0_isDividedBy_33 : decode cX0_isDividedBy 33 = .ok (.ireturn, 1) := by decide +kernel
theorem dX0_isDividedBy_34 : decode cX0_isDividedBy 34 = .ok (.aload_n 0, 1) := by decide +kernel
theorem dX0_isDividedBy_35 : decode cX0_isDividedBy 35 = .ok (.getfield 21, 3) := by decide +kernel
theorem dX0_isDividedBy_38 : decode cX0_isDividedBy 38 = .ok (.iconst 0, 1) := by decide +kernel
theorem dX0_isDividedBy_39 : decode cX0_isDividedBy 39 = .ok (.aload_n 0, 1) := by decide +kernel
theorem dX0_isDividedBy_40 : decode cX0_isDividedBy 40 = .ok (.getfield 24, 3) := by decide +kernel
theorem dX0_isDividedBy_43 : decode cX0_isDividedBy 43 = .ok (.iconst 0, 1) := by decide +kernel
theorem dX0_isDividedBy_44 : decode cX0_isDividedBy 44 = .ok (.bipush 13, 2) := by decide +kernel
theorem dX0_isDividedBy_46 : decode cX0_isDividedBy 46 = .ok (.invokestatic 66, 3) := by decide +kernel
theorem dX0_isDividedBy_49 : decode cX0_isDividedBy 49 = .ok (.aload_n 2, 1) := by decide +kernel
theorem dX0_isDividedBy_50 : decode cX0_isDividedBy 50 = .ok (.aload_n 0, 1) := by decide +kernel
theorem dX0_isDividedBy_51 : decode cX0_isDividedBy 51 = .ok (.getfield 24, 3) := by decide +kernel
theorem dX0_isDividedBy_54 : decode cX0_isDividedBy 54 = .ok (.aload_n 0, 1) := by decide +kernel
theorem dX0_isDividedBy_55 : decode cX0_isDividedBy 55 = .ok (.getfield 30, 3) := by decide +kernel
theorem dX0_isDividedBy_58 : decode cX0_isDividedBy 58 = .ok (.aload_n 0, 1) := by decide +kernel
theorem dX0_isDividedBy_59 : decode cX0_isDividedBy 59 = .ok (.getfield 27, 3) := by decide +kernel
theorem dX0_isDividedBy_62 : decode cX0_isDividedBy 62 = .ok (.invokevirtual 93, 3) := by decide +kernel
theorem dX0_isDividedBy_65 : decode cX0_isDividedBy 65 = .ok (.ifCond .ne 5, 3) := by decide +kernel
theorem dX0_isDividedBy_68 : decode cX0_isDividedBy 68 = .ok (.iconst 0, 1) := by decide +kernel
theorem dX0_isDividedBy_69 : decode cX0_isDividedBy 69 = .ok (.ireturn, 1) := by decide +kernel
theorem dX0_isDividedBy_70 : decode cX0_isDividedBy 70 = .ok (.aload_n 0, 1) := by decide +kernel
theorem dX0_isDividedBy_71 : decode cX0_isDividedBy 71 = .ok (.getfield 27, 3) := by decide +kernel
theorem dX0_isDividedBy_74 : decode cX0_isDividedBy 74 = .ok (.iconst 0, 1) := by decide +kernel
theorem dX0_isDividedBy_75 : decode cX0_isDividedBy 75 = .ok (.aload_n 0, 1) := by decide +kernel
theorem dX0_isDividedBy_76 : decode cX0_isDividedBy 76 = .ok (.getfield 21, 3) := by decide +kernel
theorem dX0_isDividedBy_79 : decode cX0_isDividedBy 79 = .ok (.iconst 0, 1) := by decide +kernel
theorem dX0_isDividedBy_80 : decode cX0_isDividedBy 80 = .ok (.bipush 13, 2) := by decide +kernel
theorem dX0_isDividedBy_82 : decode cX0_isDividedBy 82 = .ok (.invokestatic 66, 3) := by decide +kernel
theorem dX0_isDividedBy_85 : decode cX0_isDividedBy 85 = .ok (.aload_n 0, 1) := by decide +kernel
theorem dX0_isDividedBy_86 : decode cX0_isDividedBy 86 = .ok (.dup, 1) := by decide +kernel
theorem dX0_isDividedBy_87 : decode cX0_isDividedBy 87 = .ok (.getfield 30, 3) := by decide +kernel
theorem dX0_isDividedBy_90 : decode cX0_isDividedBy 90 = .ok (.aload_n 2, 1) := by decide +kernel
theorem dX0_isDividedBy_91 : decode cX0_isDividedBy 91 = .ok (.getfield 50, 3) := by decide +kernel
theorem dX0_isDividedBy_94 : decode cX0_isDividedBy 94 = .ok (.isub, 1) := by decide +kernel
theorem dX0_isDividedBy_95 : decode cX0_isDividedBy 95 = .ok (.putfield 30, 3) := by decide +kernel
theorem dX0_isDividedBy_98 : decode cX0_isDividedBy 98 = .ok (.aload_n 0, 1) := by decide +kernel
theorem dX0_isDividedBy_99 : decode cX0_isDividedBy 99 = .ok (.dup, 1) := by decide +kernel
theorem dX0_isDividedBy_100 : decode cX0_isDividedBy 100 = .ok (.getfield 34, 3) := by decide +kernel
theorem dX0_isDividedBy_103 : decode cX0_isDividedBy 103 = .ok (.aload_n 0, 1) := by decide +kernel
theorem dX0_isDividedBy_104 : decode cX0_isDividedBy 104 = .ok (.getfield 17, 3) := by decide +kernel
theorem dX0_isDividedBy_107 : decode cX0_isDividedBy 107 = .ok (.iload_n 1, 1) := by decide +kernel
theorem dX0_isDividedBy_108 : decode cX0_isDividedBy 108 = .ok (.laload, 1) := by decide +kernel
theorem dX0_isDividedBy_109 : decode cX0_isDividedBy 109 = .ok (.ldiv, 1) := by decide +kernel
theorem dX0_isDividedBy_110 : decode cX0_isDividedBy 110 = .ok (.putfield 34, 3) := by decide +kernel
theorem dX0_isDividedBy_113 : decode cX0_isDividedBy 113 = .ok (.iconst 1, 1) := by decide +kernel
theorem dX0_isDividedBy_114 : decode cX0_isDividedBy 114 = .ok (.ireturn, 1) := by decide +kernel
theorem dX0_put_0 : decode cX0_put 0 = .ok (.aload_n 0, 1) := by decide +kernel
theorem dX0_put_1 : decode cX0_put 1 = .ok (.getfield 11, 3) := by decide +kernel
theorem dX0_put_4 : decode cX0_put 4 = .ok (.iload_n 1, 1) := by decide +kernel
theorem dX0_put_5 : decode cX0_put 5 = .ok (.new 9, 3) := by decide +kernel
theorem dX0_put_8 : decode cX0_put 8 = .ok (.dup, 1) := by decide +kernel
theorem dX0_put_9 : decode cX0_put 9 = .ok (.aload_n 0, 1) := by decide +kernel
theorem dX0_put_10 : decode cX0_put 10 = .ok (.getfield 21, 3) := by decide +kernel
theorem dX0_put_13 : decode cX0_put 13 = .ok (.iload_n 2, 1) := by decide +kernel
theorem dX0_put_14 : decode cX0_put 14 = .ok (.invokespecial 97, 3) := by decide +kernel
theorem dX0_put_17 : decode cX0_put 17 = .ok (.aastore, 1) := by decide +kernel
theorem dX0_put_18 : decode cX0_put 18 = .ok (.aload_n 0, 1) := by decide +kernel
theorem dX0_put_19 : decode cX0_put 19 = .ok (.getfield 17, 3) := by decide +kernel
theorem dX0_put_22 : decode cX0_put 22 = .ok (.iload_n 1, 1) := by decide +kernel
theorem dX0_put_23 : decode cX0_put 23 = .ok (.aload_n 0, 1) := by decide +kernel
theorem dX0_put_24 : decode cX0_put 24 = .ok (.getfield 21, 3) := by decide +kernel
theorem dX0_put_27 : decode cX0_put 27 = .ok (.iload_n 2, 1) := by decide +kernel
theorem dX0_put_28 : decode cX0_put 28 = .ok (.invokestatic 53, 3) := by decide +kernel
theorem dX0_put_31 : decode cX0_put 31 = .ok (.lastore, 1) := by decide +kernel
theorem dX0_put_32 : decode cX0_put 32 = .ok (.return_, 1) := by decide +kernel
theorem dX0_markOf_0 : decode cX0_markOf 0 = .ok (.lconst 0, 1) := by decide +kernel
theorem dX0_markOf_1 : decode cX0_markOf 1 = .ok (.lstore_n 2, 1) := by decide +kernel
theorem dX0_markOf_2 : decode cX0_markOf 2 = .ok (.iload_n 1, 1) := by decide +kernel
theorem dX0_markOf_3 : decode cX0_markOf 3 = .ok (.istore 4, 2) := by decide +kernel
theorem dX0_markOf_5 : decode cX0_markOf 5 = .ok (.iload 4, 2) := by decide +kernel
theorem dX0_markOf_7 : decode cX0_markOf 7 = .ok (.ifCond .lt 20, 3) := by decide +kernel
theorem dX0_markOf_10 : decode cX0_markOf 10 = .ok (.lload_n 2, 1) := by decide +kernel
theorem dX0_markOf_11 : decode cX0_markOf 11 = .ok (.ldc2_w 100, 3) := by decide +kernel
theorem dX0_markOf_14 : decode cX0_markOf 14 = .ok (.lmul, 1) := by decide +kernel
theorem dX0_markOf_15 : decode cX0_markOf 15 = .ok (.aload_n 0, 1) := by decide +kernel
theorem dX0_markOf_16 : decode cX0_markOf 16 = .ok (.iload 4, 2) := by decide +kernel
theorem dX0_markOf_18 : decode cX0_markOf 18 = .ok (.laload, 1) := by decide +kernel
theorem dX0_markOf_19 : decode cX0_markOf 19 = .ok (.ladd, 1) := by decide +kernel
theorem dX0_markOf_20 : decode cX0_markOf 20 = .ok (.lstore_n 2, 1) := by decide +kernel
theorem dX0_markOf_21 : decode cX0_markOf 21 = .ok (.iinc 4 (-1), 3) := by decide +kernel
theorem dX0_markOf_24 : decode cX0_markOf 24 = .ok (.goto (-19), 3) := by decide +kernel
theorem dX0_markOf_27 : decode cX0_markOf 27 = .ok (.lload_n 2, 1) := by decide +kernel
theorem dX0_markOf_28 : decode cX0_markOf 28 = .ok (.lreturn, 1) := by decide +kernel
theorem dX0_writeCyclotomic_0 : decode cX0_writeCyclotomic 0 = .ok (.aload_n 0, 1) := by decide +kernel
theorem dX0_writeCyclotomic_1 : decode cX0_writeCyclotomic 1 = .ok (.getfield 21, 3) := by decide +kernel
theorem dX0_writeCyclotomic_4 : decode cX0_writeCyclotomic 4 = .ok (.lconst 0, 1) := by decide +kernel
theorem dX0_writeCyclotomic_5 : decode cX0_writeCyclotomic 5 = .ok (.invokestatic 83, 3) := by decide +kernel
theorem dX0_writeCyclotomic_8 : decode cX0_writeCyclotomic 8 = .ok (.aload_n 0, 1) := by decide +kernel
theorem dX0_writeCyclotomic_9 : decode cX0_writeCyclotomic 9 = .ok (.getfield 21, 3) := by decide +kernel
theorem dX0_writeCyclotomic_12 : decode cX0_writeCyclotomic 12 = .ok (.iconst 0, 1) := by decide +kernel
theorem dX0_writeCyclotomic_13 : decode cX0_writeCyclotomic 13 = .ok (.iload_n 1, 1) := by decide +kernel
theorem dX0_writeCyclotomic_14 : decode cX0_writeCyclotomic 14 = .ok (.iconst 1, 1) := by decide +kernel
theorem dX0_writeCyclotomic_15 : decode cX0_writeCyclotomic 15 = .ok (.if_icmp .ne 9, 3) := by decide +kernel
theorem dX0_writeCyclotomic_18 : decode cX0_writeCyclotomic 18 = .ok (.ldc2_w 102, 3) := by decide +kernel
theorem dX0_writeCyclotomic_21 : decode cX0_writeCyclotomic 21 = .ok (.goto 4, 3) := by decide +kernel
theorem dX0_writeCyclotomic_24 : decode cX0_writeCyclotomic 24 = .ok (.lconst 1, 1) := by decide +kernel
theorem dX0_writeCyclotomic_25 : decode cX0_writeCyclotomic 25 = .ok (.lastore, 1) := by decide +kernel
theorem dX0_writeCyclotomic_26 : decode cX0_writeCyclotomic 26 = .ok (.iconst 0, 1) := by decide +kernel
theorem dX0_writeCyclotomic_27 : decode cX0_writeCyclotomic 27 = .ok (.istore_n 2, 1) := by decide +kernel
theorem dX0_writeCyclotomic_28 : decode cX0_writeCyclotomic 28 = .ok (.iconst 1, 1) := by decide +kernel
theorem dX0_writeCyclotomic_29 : decode cX0_writeCyclotomic 29 = .ok (.istore_n 3, 1) := by decide +kernel
theorem dX0_writeCyclotomic_30 : decode cX0_writeCyclotomic 30 = .ok (.iload_n 3, 1) := by decide +kernel
theorem dX0_writeCyclotomic_31 : decode cX0_writeCyclotomic 31 = .ok (.iload_n 1, 1) := by decide +kernel
theorem dX0_writeCyclotomic_32 : decode cX0_writeCyclotomic 32 = .ok (.if_icmp .gt 114, 3) := by decide +kernel
theorem dX0_writeCyclotomic_35 : decode cX0_writeCyclotomic 35 = .ok (.iload_n 1, 1) := by decide +kernel
theorem dX0_writeCyclotomic_36 : decode cX0_writeCyclotomic 36 = .ok (.iload_n 3, 1) := by decide +kernel
theorem dX0_writeCyclotomic_37 : decode cX0_writeCyclotomic 37 = .ok (.irem, 1) := by decide +kernel
theorem dX0_writeCyclotomic_38 : decode cX0_writeCyclotomic 38 = .ok (.ifCond .ne 12, 3) := by decide +kernel
theorem dX0_writeCyclotomic_41 : decode cX0_writeCyclotomic 41 = .ok (.iload_n 1, 1) := by decide +kernel
theorem dX0_writeCyclotomic_42 : decode cX0_writeCyclotomic 42 = .ok (.iload_n 3, 1) := by decide +kernel
theorem dX0_writeCyclotomic_43 : decode cX0_writeCyclotomic 43 = .ok (.idiv, 1) := by decide +kernel
theorem dX0_writeCyclotomic_44 : decode cX0_writeCyclotomic 44 = .ok (.invokestatic 104, 3) := by decide +kernel
theorem dX0_writeCyclotomic_47 : decode cX0_writeCyclotomic 47 = .ok (.goto 4, 3) := by decide +kernel
theorem dX0_writeCyclotomic_50 : decode cX0_writeCyclotomic 50 = .ok (.iconst 0, 1) := by decide +kernel
theorem dX0_writeCyclotomic_51 : decode cX0_writeCyclotomic 51 = .ok (.istore 4, 2) := by decide +kernel
theorem dX0_writeCyclotomic_53 : decode cX0_writeCyclotomic 53 = .ok (.iload_n 2, 1) := by decide +kernel
theorem dX0_writeCyclotomic_54 : decode cX0_writeCyclotomic 54 = .ok (.iload 4, 2) := by decide +kernel
theorem dX0_writeCyclotomic_56 : decode cX0_writeCyclotomic 56 = .ok (.iload_n 3, 1) := by decide +kernel
theorem dX0_writeCyclotomic_57 : decode cX0_writeCyclotomic 57 = .ok (.imul, 1) := by decide +kernel
theorem dX0_writeCyclotomic_58 : decode cX0_writeCyclotomic 58 = .ok (.iadd, 1) := by decide +kernel
theorem dX0_writeCyclotomic_59 : decode cX0_writeCyclotomic 59 = .ok (.istore_n 2, 1) := by decide +kernel
theorem dX0_writeCyclotomic_60 : decode cX0_writeCyclotomic 60 = .ok (.bipush 12, 2) := by decide +kernel
theorem dX0_writeCyclotomic_62 : decode cX0_writeCyclotomic 62 = .ok (.istore 5, 2) := by decide +kernel
theorem dX0_writeCyclotomic_64 : decode cX0_writeCyclotomic 64 = .ok (.iload 4, 2) := by decide +kernel
theorem dX0_writeCyclotomic_66 : decode cX0_writeCyclotomic 66 = .ok (.ifCond .le 34, 3) := by decide +kernel
theorem dX0_writeCyclotomic_69 : decode cX0_writeCyclotomic 69 = .ok (.iload 5, 2) := by decide +kernel
theorem dX0_writeCyclotomic_71 : decode cX0_writeCyclotomic 71 = .ok (.iload_n 3, 1) := by decide +kernel
theorem dX0_writeCyclotomic_72 : decode cX0_writeCyclotomic 72 = .ok (.if_icmp .lt 28, 3) := by decide +kernel
theorem dX0_writeCyclotomic_75 : decode cX0_writeCyclotomic 75 = .ok (.aload_n 0, 1) := by decide +kernel
theorem dX0_writeCyclotomic_76 : decode cX0_writeCyclotomic 76 = .ok (.getfield 21, 3) := by decide +kernel
theorem dX0_writeCyclotomic_79 : decode cX0_writeCyclotomic 79 = .ok (.iload 5, 2) := by decide +kernel
theorem dX0_writeCyclotomic_81 : decode cX0_writeCyclotomic 81 = .ok (.dup2, 1) := by decide +kernel
theorem dX0_writeCyclotomic_82 : decode cX0_writeCyclotomic 82 = .ok (.laload, 1) := by decide +kernel
theorem dX0_writeCyclotomic_83 : decode cX0_writeCyclotomic 83 = .ok (.aload_n 0, 1) := by decide +kernel
theorem dX0_writeCyclotomic_84 : decode cX0_writeCyclotomic 84 = .ok (.getfield 21, 3) := by decide +kernel
theorem dX0_writeCyclotomic_87 : decode cX0_writeCyclotomic 87 = .ok (.iload 5, 2) := by decide +kernel
theorem dX0_writeCyclotomic_89 : decode cX0_writeCyclotomic 89 = .ok (.iload_n 3, 1) := by decide +kernel
theorem dX0_writeCyclotomic_90 : decode cX0_writeCyclotomic 90 = .ok (.isub, 1) := by decide +kernel
theorem dX0_writeCyclotomic_91 : decode cX0_writeCyclotomic 91 = .ok (.laload, 1) := by decide +kernel
theorem dX0_writeCyclotomic_92 : decode cX0_writeCyclotomic 92 = .ok (.lsub, 1) := by decide +kernel
theorem dX0_writeCyclotomic_93 : decode cX0_writeCyclotomic 93 = .ok (.lastore, 1) := by decide +kernel
theorem dX0_writeCyclotomic_94 : decode cX0_writeCyclotomic 94 = .ok (.iinc 5 (-1), 3) := by decide +kernel
theorem dX0_writeCyclotomic_97 : decode cX0_writeCyclotomic 97 = .ok (.goto (-33), 3) := by decide +kernel
theorem dX0_writeCyclotomic_100 : decode cX0_writeCyclotomic 100 = .ok (.iload_n 3, 1) := by decide +kernel
theorem dX0_writeCyclotomic_101 : decode cX0_writeCyclotomic 101 = .ok (.istore 5, 2) := by decide +kernel
theorem dX0_writeCyclotomic_103 : decode cX0_writeCyclotomic 103 = .ok (.iload 4, 2) := by decide +kernel
theorem dX0_writeCyclotomic_105 : decode cX0_writeCyclotomic 105 = .ok (.ifCond .ge 35, 3) := by decide +kernel
theorem dX0_writeCyclotomic_108 : decode cX0_writeCyclotomic 108 = .ok (.iload 5, 2) := by decide +kernel
theorem dX0_writeCyclotomic_110 : decode cX0_writeCyclotomic 110 = .ok (.bipush 12, 2) := by decide +kernel
theorem dX0_writeCyclotomic_112 : decode cX0_writeCyclotomic 112 = .ok (.if_icmp .gt 28, 3) := by decide +kernel
theorem dX0_writeCyclotomic_115 : decode cX0_writeCyclotomic 115 = .ok (.aload_n 0, 1) := by decide +kernel
theorem dX0_writeCyclotomic_116 : decode cX0_writeCyclotomic 116 = .ok (.getfield 21, 3) := by decide +kernel
theorem dX0_writeCyclotomic_119 : decode cX0_writeCyclotomic 119 = .ok (.iload 5, 2) := by decide +kernel
theorem dX0_writeCyclotomic_121 : decode cX0_writeCyclotomic 121 = .ok (.dup2, 1) := by decide +kernel
theorem dX0_writeCyclotomic_122 : decode cX0_writeCyclotomic 122 = .ok (.laload, 1) := by decide +kernel
theorem dX0_writeCyclotomic_123 : decode cX0_writeCyclotomic 123 = .ok (.aload_n 0, 1) := by decide +kernel
theorem dX0_writeCyclotomic_124 : decode cX0_writeCyclotomic 124 = .ok (.getfield 21, 3) := by decide +kernel
theorem dX0_writeCyclotomic_127 : decode cX0_writeCyclotomic 127 = .ok (.iload 5, 2) := by decide +kernel
theorem dX0_writeCyclotomic_129 : decode cX0_writeCyclotomic 129 = .ok (.iload_n 3, 1) := by decide +kernel
theorem dX0_writeCyclotomic_130 : decode cX0_writeCyclotomic 130 = .ok (.isub, 1) := by decide +kernel
theorem dX0_writeCyclotomic_131 : decode cX0_writeCyclotomic 131 = .ok (.laload, 1) := by decide +kernel
theorem dX0_writeCyclotomic_132 : decode cX0_writeCyclotomic 132 = .ok (.ladd, 1) := by decide +kernel
theorem dX0_writeCyclotomic_133 : decode cX0_writeCyclotomic 133 = .ok (.lastore, 1) := by decide +kernel
theorem dX0_writeCyclotomic_134 : decode cX0_writeCyclotomic 134 = .ok (.iinc 5 1, 3) := by decide +kernel
theorem dX0_writeCyclotomic_137 : decode cX0_writeCyclotomic 137 = .ok (.goto (-34), 3) := by decide +kernel
theorem dX0_writeCyclotomic_140 : decode cX0_writeCyclotomic 140 = .ok (.iinc 3 1, 3) := by decide +kernel
theorem dX0_writeCyclotomic_143 : decode cX0_writeCyclotomic 143 = .ok (.goto (-113), 3) := by decide +kernel
theorem dX0_writeCyclotomic_146 : decode cX0_writeCyclotomic 146 = .ok (.iload_n 2, 1) := by decide +kernel
theorem dX0_writeCyclotomic_147 : decode cX0_writeCyclotomic 147 = .ok (.ireturn, 1) := by decide +kernel
theorem dX0_moebius_0 : decode cX0_moebius 0 = .ok (.iconst 1, 1) := by decide +kernel
theorem dX0_moebius_1 : decode cX0_moebius 1 = .ok (.istore_n 1, 1) := by decide +kernel
theorem dX0_moebius_2 : decode cX0_moebius 2 = .ok (.iload_n 0, 1) := by decide +kernel
theorem dX0_moebius_3 : decode cX0_moebius 3 = .ok (.istore_n 2, 1) := by decide +kernel
theorem dX0_moebius_4 : decode cX0_moebius 4 = .ok (.iconst 2, 1) := by decide +kernel
theorem dX0_moebius_5 : decode cX0_moebius 5 = .ok (.istore_n 3, 1) := by decide +kernel
theorem dX0_moebius_6 : decode cX0_moebius 6 = .ok (.iload_n 3, 1) := by decide +kernel
theorem dX0_moebius_7 : decode cX0_moebius 7 = .ok (.iload_n 0, 1) := by decide +kernel
theorem dX0_moebius_8 : decode cX0_moebius 8 = .ok (.if_icmp .gt 37, 3) := by decide +kernel
theorem dX0_moebius_11 : decode cX0_moebius 11 = .ok (.iload_n 2, 1) := by decide +kernel
theorem dX0_moebius_12 : decode cX0_moebius 12 = .ok (.iconst 1, 1) := by decide +kernel
theorem dX0_moebius_13 : decode cX0_moebius 13 = .ok (.if_icmp .le 32, 3) := by decide +kernel
theorem dX0_moebius_16 : decode cX0_moebius 16 = .ok (.iload_n 2, 1) := by decide +kernel
theorem dX0_moebius_17 : decode cX0_moebius 17 = .ok (.iload_n 3, 1) := by decide +kernel
theorem dX0_moebius_18 : decode cX0_moebius 18 = .ok (.irem, 1) := by decide +kernel
theorem dX0_moebius_19 : decode cX0_moebius 19 = .ok (.ifCond .ne 20, 3) := by decide +kernel
theorem dX0_moebius_22 : decode cX0_moebius 22 = .ok (.iload_n 2, 1) := by decide +kernel
theorem dX0_moebius_23 : decode cX0_moebius 23 = .ok (.iload_n 3, 1) := by decide +kernel
theorem dX0_moebius_24 : decode cX0_moebius 24 = .ok (.idiv, 1) := by decide +kernel
theorem dX0_moebius_25 : decode cX0_moebius 25 = .ok (.istore_n 2, 1) := by decide +kernel
theorem dX0_moebius_26 : decode cX0_moebius 26 = .ok (.iload_n 2, 1) := by decide +kernel
theorem dX0_moebius_27 : decode cX0_moebius 27 = .ok (.iload_n 3, 1) := by decide +kernel
theorem dX0_moebius_28 : decode cX0_moebius 28 = .ok (.irem, 1) := by decide +kernel
theorem dX0_moebius_29 : decode cX0_moebius 29 = .ok (.ifCond .ne 7, 3) := by decide +kernel
theorem dX0_moebius_32 : decode cX0_moebius 32 = .ok (.iconst 0, 1) := by decide +kernel
theorem dX0_moebius_33 : decode cX0_moebius 33 = .ok (.goto 5, 3) := by decide +kernel
theorem dX0_moebius_36 : decode cX0_moebius 36 = .ok (.iload_n 1, 1) := by decide +kernel
theorem dX0_moebius_37 : decode cX0_moebius 37 = .ok (.ineg, 1) := by decide +kernel
theorem dX0_moebius_38 : decode cX0_moebius 38 = .ok (.istore_n 1, 1) := by decide +kernel
theorem dX0_moebius_39 : decode cX0_moebius 39 = .ok (.iinc 3 1, 3) := by decide +kernel
theorem dX0_moebius_42 : decode cX0_moebius 42 = .ok (.goto (-36), 3) := by decide +kernel
theorem dX0_moebius_45 : decode cX0_moebius 45 = .ok (.iload_n 1, 1) := by decide +kernel
theorem dX0_moebius_46 : decode cX0_moebius 46 = .ok (.ireturn, 1) := by decide +kernel
theorem dX1_init_0 : decode cX1_init 0 = .ok (.aload_n 0, 1) := by decide +kernel
theorem dX1_init_1 : decode cX1_init 1 = .ok (.invokespecial 1, 3) := by decide +kernel
theorem dX1_init_4 : decode cX1_init 4 = .ok (.aload_n 0, 1) := by decide +kernel
theorem dX1_init_5 : decode cX1_init 5 = .ok (.iload_n 1, 1) := by decide +kernel
theorem dX1_init_6 : decode cX1_init 6 = .ok (.putfield 7, 3) := by decide +kernel
theorem dX1_init_9 : decode cX1_init 9 = .ok (.aload_n 0, 1) := by decide +kernel
theorem dX1_init_10 : decode cX1_init 10 = .ok (.iload_n 2, 1) := by decide +kernel
theorem dX1_init_11 : decode cX1_init 11 = .ok (.putfield 13, 3) := by decide +kernel
theorem dX1_init_14 : decode cX1_init 14 = .ok (.aload_n 0, 1) := by decide +kernel
theorem dX1_init_15 : decode cX1_init 15 = .ok (.iload_n 3, 1) := by decide +kernel
theorem dX1_init_16 : decode cX1_init 16 = .ok (.putfield 16, 3) := by decide +kernel
theorem dX1_init_19 : decode cX1_init 19 = .ok (.aload_n 0, 1) := by decide +kernel
theorem dX1_init_20 : decode cX1_init 20 = .ok (.iload 4, 2) := by decide +kernel
theorem dX1_init_22 : decode cX1_init 22 = .ok (.putfield 19, 3) := by decide +kernel
theorem dX1_init_25 : decode cX1_init 25 = .ok (.aload_n 0, 1) := by decide +kernel
theorem dX1_init_26 : decode cX1_init 26 = .ok (.aload 5, 2) := by decide +kernel
theorem dX1_init_28 : decode cX1_init 28 = .ok (.putfield 22, 3) := by decide +kernel
theorem dX1_init_31 : decode cX1_init 31 = .ok (.aload_n 0, 1) := by decide +kernel
theorem dX1_init_32 : decode cX1_init 32 = .ok (.aload 5, 2) := by decide +kernel
theorem dX1_init_34 : decode cX1_init 34 = .ok (.arraylength, 1) := by decide +kernel
theorem dX1_init_35 : decode cX1_init 35 = .ok (.bipush 16, 2) := by decide +kernel
theorem dX1_init_37 : decode cX1_init 37 = .ok (.idiv, 1) := by decide +kernel
theorem dX1_init_38 : decode cX1_init 38 = .ok (.putfield 26, 3) := by decide +kernel
theorem dX1_init_41 : decode cX1_init 41 = .ok (.return_, 1) := by decide +kernel
theorem dX1_has_0 : decode cX1_has 0 = .ok (.iload_n 1, 1) := by decide +kernel
theorem dX1_has_1 : decode cX1_has 1 = .ok (.ifCond .lt 15, 3) := by decide +kernel
theorem dX1_has_4 : decode cX1_has 4 = .ok (.iload_n 1, 1) := by decide +kernel
theorem dX1_has_5 : decode cX1_has 5 = .ok (.aload_n 0, 1) := by decide +kernel
theorem dX1_has_6 : decode cX1_has 6 = .ok (.getfield 26, 3) := by decide +kernel
theorem dX1_has_9 : decode cX1_has 9 = .ok (.if_icmp .ge 7, 3) := by decide +kernel
theorem dX1_has_12 : decode cX1_has 12 = .ok (.iconst 1, 1) := by decide +kernel
theorem dX1_has_13 : decode cX1_has 13 = .ok (.goto 4, 3) := by decide +kernel
theorem dX1_has_16 : decode cX1_has 16 = .ok (.iconst 0, 1) := by decide +kernel
theorem dX1_has_17 : decode cX1_has 17 = .ok (.ireturn, 1) := by decide +kernel
theorem dX1_entry_0 : decode cX1_entry 0 = .ok (.aload_n 0, 1) := by decide +kernel
theorem dX1_entry_1 : decode cX1_entry 1 = .ok (.iload_n 1, 1) := by decide +kernel
theorem dX1_entry_2 : decode cX1_entry 2 = .ok (.invokevirtual 29, 3) := by decide +kernel
theorem dX1_entry_5 : decode cX1_entry 5 = .ok (.ifCond .eq 27, 3) := by decide +kernel
theorem dX1_entry_8 : decode cX1_entry 8 = .ok (.iload_n 2, 1) := by decide +kernel
theorem dX1_entry_9 : decode cX1_entry 9 = .ok (.ifCond .lt 23, 3) := by decide +kernel
theorem dX1_entry_12 : decode cX1_entry 12 = .ok (.iload_n 2, 1) := by decide +kernel
theorem dX1_entry_13 : decode cX1_entry 13 = .ok (.bipush 16, 2) := by decide +kernel
theorem dX1_entry_15 : decode cX1_entry 15 = .ok (.if_icmp .ge 17, 3) := by decide +kernel
theorem dX1_entry_18 : decode cX1_entry 18 = .ok (.aload_n 0, 1) := by decide +kernel
theorem dX1_entry_19 : decode cX1_entry 19 = .ok (.getfield 22, 3) := by decide +kernel
theorem dX1_entry_22 : decode cX1_entry 22 = .ok (.iload_n 1, 1) := by decide +kernel
theorem dX1_entry_23 : decode cX1_entry 23 = .ok (.bipush 16, 2) := by decide +kernel
theorem dX1_entry_25 : decode cX1_entry 25 = .ok (.imul, 1) := by decide +kernel
theorem dX1_entry_26 : decode cX1_entry 26 = .ok (.iload_n 2, 1) := by decide +kernel
theorem dX1_entry_27 : decode cX1_entry 27 = .ok (.iadd, 1) := by decide +kernel
theorem dX1_entry_28 : decode cX1_entry 28 = .ok (.iaload, 1) := by decide +kernel
theorem dX1_entry_29 : decode cX1_entry 29 = .ok (.goto 4, 3) := by decide +kernel
theorem dX1_entry_32 : decode cX1_entry 32 = .ok (.iconst 0, 1) := by decide +kernel
theorem dX1_entry_33 : decode cX1_entry 33 = .ok (.ireturn, 1) := by decide +kernel
theorem dX1_writeTo_0 : decode cX1_writeTo 0 = .ok (.aload_n 2, 1) := by decide +kernel
theorem dX1_writeTo_1 : decode cX1_writeTo 1 = .ok (.lconst 0, 1) := by decide +kernel
theorem dX1_writeTo_2 : decode cX1_writeTo 2 = .ok (.invokestatic 33, 3) := by decide +kernel
theorem dX1_writeTo_5 : decode cX1_writeTo 5 = .ok (.iconst 0, 1) := by decide +kernel
theorem dX1_writeTo_6 : decode cX1_writeTo 6 = .ok (.istore_n 3, 1) := by decide +kernel
theorem dX1_writeTo_7 : decode cX1_writeTo 7 = .ok (.iload_n 3, 1) := by decide +kernel
theorem dX1_writeTo_8 : decode cX1_writeTo 8 = .ok (.aload_n 0, 1) := by decide +kernel
theorem dX1_writeTo_9 : decode cX1_writeTo 9 = .ok (.getfield 7, 3) := by decide +kernel
theorem dX1_writeTo_12 : decode cX1_writeTo 12 = .ok (.if_icmp .gt 25, 3) := by decide +kernel
theorem dX1_writeTo_15 : decode cX1_writeTo 15 = .ok (.iload_n 3, 1) := by decide +kernel
theorem dX1_writeTo_16 : decode cX1_writeTo 16 = .ok (.aload_n 2, 1) := by decide +kernel
theorem dX1_writeTo_17 : decode cX1_writeTo 17 = .ok (.arraylength, 1) := by decide +kernel
theorem dX1_writeTo_18 : decode cX1_writeTo 18 = .ok (.if_icmp .ge 19, 3) := by decide +kernel
theorem dX1_writeTo_21 : decode cX1_writeTo 21 = .ok (.aload_n 2, 1) := by decide +kernel
theorem dX1_writeTo_22 : decode cX1_writeTo 22 = .ok (.iload_n 3, 1) := by decide +kernel
theorem dX1_writeTo_23 : decode cX1_writeTo 23 = .ok (.aload_n 0, 1) := by decide +kernel
theorem dX1_writeTo_24 : decode cX1_writeTo 24 = .ok (.iload_n 1, 1) := by decide +kernel
theorem dX1_writeTo_25 : decode cX1_writeTo 25 = .ok (.iload_n 3, 1) := by decide +kernel
theorem dX1_writeTo_26 : decode cX1_writeTo 26 = .ok (.invokevirtual 39, 3) := by decide +kernel
theorem dX1_writeTo_29 : decode cX1_writeTo 29 = .ok (.i2l, 1) := by decide +kernel
theorem dX1_writeTo_30 : decode cX1_writeTo 30 = .ok (.lastore, 1) := by decide +kernel
theorem dX1_writeTo_31 : decode cX1_writeTo 31 = .ok (.iinc 3 1, 3) := by decide +kernel
theorem dX1_writeTo_34 : decode cX1_writeTo 34 = .ok (.goto (-27), 3) := by decide +kernel
theorem dX1_writeTo_37 : decode cX1_writeTo 37 = .ok (.return_, 1) := by decide +kernel
theorem dX1_firstLeast_0 : decode cX1_firstLeast 0 = .ok (.iconst 0, 1) := by decide +kernel
theorem dX1_firstLeast_1 : decode cX1_firstLeast 1 = .ok (.istore_n 1, 1) := by decide +kernel
theorem dX1_firstLeast_2 : decode cX1_firstLeast 2 = .ok (.iconst 1, 1) := by decide +kernel
theorem dX1_firstLeast_3 : decode cX1_firstLeast 3 = .ok (.istore_n 2, 1) := by decide +kernel
theorem dX1_firstLeast_4 : decode cX1_firstLeast 4 = .ok (.iload_n 2, 1) := by decide +kernel
theorem dX1_firstLeast_5 : decode cX1_firstLeast 5 = .ok (.aload_n 0, 1) := by decide +kernel
theorem dX1_firstLeast_6 : decode cX1_firstLeast 6 = .ok (.getfield 26, 3) := by decide +kernel
theorem dX1_firstLeast_9 : decode cX1_firstLeast 9 = .ok (.if_icmp .ge 28, 3) := by decide +kernel
theorem dX1_firstLeast_12 : decode cX1_firstLeast 12 = .ok (.aload_n 0, 1) := by decide +kernel
theorem dX1_firstLeast_13 : decode cX1_firstLeast 13 = .ok (.iload_n 2, 1) := by decide +kernel
theorem dX1_firstLeast_14 : decode cX1_firstLeast 14 = .ok (.bipush 13, 2) := by decide +kernel
theorem dX1_firstLeast_16 : decode cX1_firstLeast 16 = .ok (.invokevirtual 39, 3) := by decide +kernel
theorem dX1_firstLeast_19 : decode cX1_firstLeast 19 = .ok (.aload_n 0, 1) := by decide +kernel
theorem dX1_firstLeast_20 : decode cX1_firstLeast 20 = .ok (.iload_n 1, 1) := by decide +kernel
theorem dX1_firstLeast_21 : decode cX1_firstLeast 21 = .ok (.bipush 13, 2) := by decide +kernel
theorem dX1_firstLeast_23 : decode cX1_firstLeast 23 = .ok (.invokevirtual 39, 3) := by decide +kernel
theorem dX1_firstLeast_26 : decode cX1_firstLeast 26 = .ok (.if_icmp .ge 5, 3) := by decide +kernel
theorem dX1_firstLeast_29 : decode cX1_firstLeast 29 = .ok (.iload_n 2, 1) := by decide +kernel
theorem dX1_firstLeast_30 : decode cX1_firstLeast 30 = .ok (.istore_n 1, 1) := by decide +kernel
theorem dX1_firstLeast_31 : decode cX1_firstLeast 31 = .ok (.iinc 2 1, 3) := by decide +kernel
theorem dX1_firstLeast_34 : decode cX1_firstLeast 34 = .ok (.goto (-30), 3) := by decide +kernel
theorem dX1_firstLeast_37 : decode cX1_firstLeast 37 = .ok (.iload_n 1, 1) := by decide +kernel
theorem dX1_firstLeast_38 : decode cX1_firstLeast 38 = .ok (.ireturn, 1) := by decide +kernel
theorem dX1_howMany_0 : decode cX1_howMany 0 = .ok (.iconst 0, 1) := by decide +kernel
theorem dX1_howMany_1 : decode cX1_howMany 1 = .ok (.istore_n 2, 1) := by decide +kernel
theorem dX1_howMany_2 : decode cX1_howMany 2 = .ok (.iconst 0, 1) := by decide +kernel
theorem dX1_howMany_3 : decode cX1_howMany 3 = .ok (.istore_n 3, 1) := by decide +kernel
theorem dX1_howMany_4 : decode cX1_howMany 4 = .ok (.iload_n 3, 1) := by decide +kernel
theorem dX1_howMany_5 : decode cX1_howMany 5 = .ok (.aload_n 0, 1) := by decide +kernel
theorem dX1_howMany_6 : decode cX1_howMany 6 = .ok (.getfield 26, 3) := by decide +kernel
theorem dX1_howMany_9 : decode cX1_howMany 9 = .ok (.if_icmp .ge 28, 3) := by decide +kernel
theorem dX1_howMany_12 : decode cX1_howMany 12 = .ok (.iload_n 2, 1) := by decide +kernel
theorem dX1_howMany_13 : decode cX1_howMany 13 = .ok (.aload_n 0, 1) := by decide +kernel
theorem dX1_howMany_14 : decode cX1_howMany 14 = .ok (.iload_n 3, 1) := by decide +kernel
theorem dX1_howMany_15 : decode cX1_howMany 15 = .ok (.bipush 13, 2) := by decide +kernel
theorem dX1_howMany_17 : decode cX1_howMany 17 = .ok (.invokevirtual 39, 3) := by decide +kernel
theorem dX1_howMany_20 : decode cX1_howMany 20 = .ok (.iload_n 1, 1) := by decide +kernel
theorem dX1_howMany_21 : decode cX1_howMany 21 = .ok (.if_icmp .ne 7, 3) := by decide +kernel
theorem dX1_howMany_24 : decode cX1_howMany 24 = .ok (.iconst 1, 1) := by decide +kernel
theorem dX1_howMany_25 : decode cX1_howMany 25 = .ok (.goto 4, 3) := by decide +kernel
theorem dX1_howMany_28 : decode cX1_howMany 28 = .ok (.iconst 0, 1) := by decide +kernel
theorem dX1_howMany_29 : decode cX1_howMany 29 = .ok (.iadd, 1) := by decide +kernel
theorem dX1_howMany_30 : decode cX1_howMany 30 = .ok (.istore_n 2, 1) := by decide +kernel
theorem dX1_howMany_31 : decode cX1_howMany 31 = .ok (.iinc 3 1, 3) := by decide +kernel
theorem dX1_howMany_34 : decode cX1_howMany 34 = .ok (.goto (-30), 3) := by decide +kernel
theorem dX1_howMany_37 : decode cX1_howMany 37 = .ok (.iload_n 2, 1) := by decide +kernel
theorem dX1_howMany_38 : decode cX1_howMany 38 = .ok (.ireturn, 1) := by decide +kernel
theorem dX2_init_0 : decode cX2_init 0 = .ok (.aload_n 0, 1) := by decide +kernel
theorem dX2_init_1 : decode cX2_init 1 = .ok (.invokespecial 5, 3) := by decide +kernel
theorem dX2_init_4 : decode cX2_init 4 = .ok (.aload_n 0, 1) := by decide +kernel
theorem dX2_init_5 : decode cX2_init 5 = .ok (.bipush 8, 2) := by decide +kernel
theorem dX2_init_7 : decode cX2_init 7 = .ok (.anewarray 1, 3) := by decide +kernel
theorem dX2_init_10 : decode cX2_init 10 = .ok (.putfield 11, 3) := by decide +kernel
theorem dX2_init_13 : decode cX2_init 13 = .ok (.aload_n 0, 1) := by decide +kernel
theorem dX2_init_14 : decode cX2_init 14 = .ok (.bipush 13, 2) := by decide +kernel
theorem dX2_init_16 : decode cX2_init 16 = .ok (.bipush 13, 2) := by decide +kernel
theorem dX2_init_18 : decode cX2_init 18 = .ok (.multianewarray 17 2, 4) := by decide +kernel
theorem dX2_init_22 : decode cX2_init 22 = .ok (.putfield 19, 3) := by decide +kernel
theorem dX2_init_25 : decode cX2_init 25 = .ok (.aload_n 0, 1) := by decide +kernel
theorem dX2_init_26 : decode cX2_init 26 = .ok (.new 1, 3) := by decide +kernel
theorem dX2_init_29 : decode cX2_init 29 = .ok (.dup, 1) := by decide +kernel
theorem dX2_init_30 : decode cX2_init 30 = .ok (.bipush 8, 2) := by decide +kernel
theorem dX2_init_32 : decode cX2_init 32 = .ok (.invokespecial 22, 3) := by decide +kernel
theorem dX2_init_35 : decode cX2_init 35 = .ok (.putfield 25, 3) := by decide +kernel
theorem dX2_init_38 : decode cX2_init 38 = .ok (.aload_n 0, 1) := by decide +kernel
theorem dX2_init_39 : decode cX2_init 39 = .ok (.new 1, 3) := by decide +kernel
theorem dX2_init_42 : decode cX2_init 42 = .ok (.dup, 1) := by decide +kernel
theorem dX2_init_43 : decode cX2_init 43 = .ok (.bipush 64, 2) := by decide +kernel
theorem dX2_init_45 : decode cX2_init 45 = .ok (.invokespecial 22, 3) := by decide +kernel
theorem dX2_init_48 : decode cX2_init 48 = .ok (.putfield 29, 3) := by decide +kernel
theorem dX2_init_51 : decode cX2_init 51 = .ok (.aload_n 0, 1) := by decide +kernel
theorem dX2_init_52 : decode cX2_init 52 = .ok (.new 1, 3) := by decide +kernel
theorem dX2_init_55 : decode cX2_init 55 = .ok (.dup, 1) := by decide +kernel
theorem dX2_init_56 : decode cX2_init 56 = .ok (.sipush 128, 3) := by decide +kernel
theorem dX2_init_59 : decode cX2_init 59 = .ok (.invokespecial 22, 3) := by decide +kernel
theorem dX2_init_62 : decode cX2_init 62 = .ok (.putfield 32, 3) := by decide +kernel
theorem dX2_init_65 : decode cX2_init 65 = .ok (.aload_n 0, 1) := by decide +kernel
theorem dX2_init_66 : decode cX2_init 66 = .ok (.new 1, 3) := by decide +kernel
theorem dX2_init_69 : decode cX2_init 69 = .ok (.dup, 1) := by decide +kernel
theorem dX2_init_70 : decode cX2_init 70 = .ok (.sipush 128, 3) := by decide +kernel
theorem dX2_init_73 : decode cX2_init 73 = .ok (.invokespecial 22, 3) := by decide +kernel
theorem dX2_init_76 : decode cX2_init 76 = .ok (.putfield 35, 3) := by decide +kernel
theorem dX2_init_79 : decode cX2_init 79 = .ok (.aload_n 0, 1) := by decide +kernel
theorem dX2_init_80 : decode cX2_init 80 = .ok (.iconst 0, 1) := by decide +kernel
theorem dX2_init_81 : decode cX2_init 81 = .ok (.putfield 38, 3) := by decide +kernel
theorem dX2_init_84 : decode cX2_init 84 = .ok (.aload_n 0, 1) := by decide +kernel
theorem dX2_init_85 : decode cX2_init 85 = .ok (.iconst 0, 1) := by decide +kernel
theorem dX2_init_86 : decode cX2_init 86 = .ok (.putfield 42, 3) := by decide +kernel
theorem dX2_init_89 : decode cX2_init 89 = .ok (.new 1, 3) := by decide +kernel
theorem dX2_init_92 : decode cX2_init 92 = .ok (.dup, 1) := by decide +kernel
theorem dX2_init_93 : decode cX2_init 93 = .ok (.iconst 1, 1) := by decide +kernel
theorem dX2_init_94 : decode cX2_init 94 = .ok (.invokespecial 22, 3) := by decide +kernel
theorem dX2_init_97 : decode cX2_init 97 = .ok (.astore_n 1, 1) := by decide +kernel
theorem dX2_init_98 : decode cX2_init 98 = .ok (.aload_n 1, 1) := by decide +kernel
theorem dX2_init_99 : decode cX2_init 99 = .ok (.sipush 1000, 3) := by decide +kernel
theorem dX2_init_102 : decode cX2_init 102 = .ok (.invokevirtual 45, 3) := by decide +kernel
theorem dX2_init_105 : decode cX2_init 105 = .ok (.aload_n 0, 1) := by decide +kernel
theorem dX2_init_106 : decode cX2_init 106 = .ok (.getfield 11, 3) := by decide +kernel
theorem dX2_init_109 : decode cX2_init 109 = .ok (.iconst 0, 1) := by decide +kernel
theorem dX2_init_110 : decode cX2_init 110 = .ok (.aload_n 1, 1) := by decide +kernel
theorem dX2_init_111 : decode cX2_init 111 = .ok (.aastore, 1) := by decide +kernel
theorem dX2_init_112 : decode cX2_init 112 = .ok (.iconst 1, 1) := by decide +kernel
theorem dX2_init_113 : decode cX2_init 113 = .ok (.istore_n 2, 1) := by decide +kernel
theorem dX2_init_114 : decode cX2_init 114 = .ok (.iload_n 2, 1) := by decide +kernel
theorem dX2_init_115 : decode cX2_init 115 = .ok (.aload_n 0, 1) := by decide +kernel
theorem dX2_init_116 : decode cX2_init 116 = .ok (.getfield 11, 3) := by decide +kernel
theorem dX2_init_119 : decode cX2_init 119 = .ok (.arraylength, 1) := by decide +kernel
theorem dX2_init_120 : decode cX2_init 120 = .ok (.if_icmp .ge 37, 3) := by decide +kernel
theorem dX2_init_123 : decode cX2_init 123 = .ok (.new 1, 3) := by decide +kernel
theorem dX2_init_126 : decode cX2_init 126 = .ok (.dup, 1) := by decide +kernel
theorem dX2_init_127 : decode cX2_init 127 = .ok (.iconst 2, 1) := by decide +kernel
theorem dX2_init_128 : decode cX2_init 128 = .ok (.aload_n 1, 1) := by decide +kernel
theorem dX2_init_129 : decode cX2_init 129 = .ok (.getfield 48, 3) := by decide +kernel
theorem dX2_init_132 : decode cX2_init 132 = .ok (.imul, 1) := by decide +kernel
theorem dX2_init_133 : decode cX2_init 133 = .ok (.invokespecial 22, 3) := by decide +kernel
theorem dX2_init_136 : decode cX2_init 136 = .ok (.astore_n 3, 1) := by decide +kernel
theorem dX2_init_137 : decode cX2_init 137 = .ok (.aload_n 3, 1) := by decide +kernel
theorem dX2_init_138 : decode cX2_init 138 = .ok (.aload_n 1, 1) := by decide +kernel
theorem dX2_init_139 : decode cX2_init 139 = .ok (.invokevirtual 51, 3) := by decide +kernel
theorem dX2_init_142 : decode cX2_init 142 = .ok (.aload_n 0, 1) := by decide +kernel
theorem dX2_init_143 : decode cX2_init 143 = .ok (.getfield 11, 3) := by decide +kernel
theorem dX2_init_146 : decode cX2_init 146 = .ok (.iload_n 2, 1) := by decide +kernel
theorem dX2_init_147 : decode cX2_init 147 = .ok (.aload_n 3, 1) := by decide +kernel
theorem dX2_init_148 : decode cX2_init 148 = .ok (.aastore, 1) := by decide +kernel
theorem dX2_init_149 : decode cX2_init 149 = .ok (.aload_n 3, 1) := by decide +kernel
theorem dX2_init_150 : decode cX2_init 150 = .ok (.astore_n 1, 1) := by decide +kernel
theorem dX2_init_151 : decode cX2_init 151 = .ok (.iinc 2 1, 3) := by decide +kernel
theorem dX2_init_154 : decode cX2_init 154 = .ok (.goto (-40), 3) := by decide +kernel
theorem dX2_init_157 : decode cX2_init 157 = .ok (.iconst 0, 1) := by decide +kernel
theorem dX2_init_158 : decode cX2_init 158 = .ok (.istore_n 2, 1) := by decide +kernel
theorem dX2_init_159 : decode cX2_init 159 = .ok (.iload_n 2, 1) := by decide +kernel
theorem dX2_init_160 : decode cX2_init 160 = .ok (.bipush 13, 2) := by decide +kernel
theorem dX2_init_162 : decode cX2_init 162 = .ok (.if_icmp .ge 62, 3) := by decide +kernel
theorem dX2_init_165 : decode cX2_init 165 = .ok (.aload_n 0, 1) := by decide +kernel
theorem dX2_init_166 : decode cX2_init 166 = .ok (.getfield 19, 3) := by decide +kernel
theorem dX2_init_169 : decode cX2_init 169 = .ok (.iload_n 2, 1) := by decide +kernel
theorem dX2_init_170 : decode cX2_init 170 = .ok (.aaload, 1) := by decide +kernel
theorem dX2_init_171 : decode cX2_init 171 = .ok (.iconst 0, 1) := by decide +kernel
theorem dX2_init_172 : decode cX2_init 172 = .ok (.iconst 1, 1) := by decide +kernel
theorem dX2_init_173 : decode cX2_init 173 = .ok (.iastore, 1) := by decide +kernel
theorem dX2_init_174 : decode cX2_init 174 = .ok (.iconst 1, 1) := by decide +kernel
theorem dX2_init_175 : decode cX2_init 175 = .ok (.istore_n 3, 1) := by decide +kernel
theorem dX2_init_176 : decode cX2_init 176 = .ok (.iload_n 3, 1) := by decide +kernel
theorem dX2_init_177 : decode cX2_init 177 = .ok (.iload_n 2, 1) := by decide +kernel
theorem dX2_init_178 : decode cX2_init 178 = .ok (.if_icmp .gt 40, 3) := by decide +kernel
theorem dX2_init_181 : decode cX2_init 181 = .ok (.aload_n 0, 1) := by decide +kernel
theorem dX2_init_182 : decode cX2_init 182 = .ok (.getfield 19, 3) := by decide +kernel
theorem dX2_init_185 : decode cX2_init 185 = .ok (.iload_n 2, 1) := by decide +kernel
theorem dX2_init_186 : decode cX2_init 186 = .ok (.aaload, 1) := by decide +kernel
theorem dX2_init_187 : decode cX2_init 187 = .ok (.iload_n 3, 1) := by decide +kernel
theorem dX2_init_188 : decode cX2_init 188 = .ok (.aload_n 0, 1) := by decide +kernel
theorem dX2_init_189 : decode cX2_init 189 = .ok (.getfield 19, 3) := by decide +kernel
theorem dX2_init_192 : decode cX2_init 192 = .ok (.iload_n 2, 1) := by decide +kernel
theorem dX2_init_193 : decode cX2_init 193 = .ok (.iconst 1, 1) := by decide +kernel
theorem dX2_init_194 : decode cX2_init 194 = .ok (.isub, 1) := by decide +kernel
theorem dX2_init_195 : decode cX2_init 195 = .ok (.aaload, 1) := by decide +kernel
theorem dX2_init_196 : decode cX2_init 196 = .ok (.iload_n 3, 1) := by decide +kernel
theorem dX2_init_197 : decode cX2_init 197 = .ok (.iconst 1, 1) := by decide +kernel
theorem dX2_init_198 : decode cX2_init 198 = .ok (.isub, 1) := by decide +kernel
theorem dX2_init_199 : decode cX2_init 199 = .ok (.iaload, 1) := by decide +kernel
theorem dX2_init_200 : decode cX2_init 200 = .ok (.aload_n 0, 1) := by decide +kernel
theorem dX2_init_201 : decode cX2_init 201 = .ok (.getfield 19, 3) := by decide +kernel
theorem dX2_init_204 : decode cX2_init 204 = .ok (.iload_n 2, 1) := by decide +kernel
theorem dX2_init_205 : decode cX2_init 205 = .ok (.iconst 1, 1) := by decide +kernel
theorem dX2_init_206 : decode cX2_init 206 = .ok (.isub, 1) := by decide +kernel
theorem dX2_init_207 : decode cX2_init 207 = .ok (.aaload, 1) := by decide +kernel
theorem dX2_init_208 : decode cX2_init 208 = .ok (.iload_n 3, 1) := by decide +kernel
theorem dX2_init_209 : decode cX2_init 209 = .ok (.iaload, 1) := by decide +kernel
theorem dX2_init_210 : decode cX2_init 210 = .ok (.iadd, 1) := by decide +kernel
theorem dX2_init_211 : decode cX2_init 211 = .ok (.iastore, 1) := by decide +kernel
theorem dX2_init_212 : decode cX2_init 212 = .ok (.iinc 3 1, 3) := by decide +kernel
theorem dX2_init_215 : decode cX2_init 215 = .ok (.goto (-39), 3) := by decide +kernel
theorem dX2_init_218 : decode cX2_init 218 = .ok (.iinc 2 1, 3) := by decide +kernel
theorem dX2_init_221 : decode cX2_init 221 = .ok (.goto (-62), 3) := by decide +kernel
theorem dX2_init_224 : decode cX2_init 224 = .ok (.return_, 1) := by decide +kernel
theorem dX2_lowBy_0 : decode cX2_lowBy 0 = .ok (.iload_n 2, 1) := by decide +kernel
theorem dX2_lowBy_1 : decode cX2_lowBy 1 = .ok (.ifCond .lt 9, 3) := by decide +kernel
theorem dX2_lowBy_4 : decode cX2_lowBy 4 = .ok (.iload_n 2, 1) := by decide +kernel
theorem dX2_lowBy_5 : decode cX2_lowBy 5 = .ok (.bipush 6, 2) := by decide +kernel
theorem dX2_lowBy_7 : decode cX2_lowBy 7 = .ok (.if_icmp .le 5, 3) := by decide +kernel
theorem dX2_lowBy_10 : decode cX2_lowBy 10 = .ok (.iconst (-1), 1) := by decide +kernel
theorem dX2_lowBy_11 : decode cX2_lowBy 11 = .ok (.ireturn, 1) := by decide +kernel
theorem dX2_lowBy_12 : decode cX2_lowBy 12 = .ok (.aload_n 1, 1) := by decide +kernel
theorem dX2_lowBy_13 : decode cX2_lowBy 13 = .ok (.getfield 55, 3) := by decide +kernel
theorem dX2_lowBy_16 : decode cX2_lowBy 16 = .ok (.iload_n 2, 1) := by decide +kernel
theorem dX2_lowBy_17 : decode cX2_lowBy 17 = .ok (.aaload, 1) := by decide +kernel
theorem dX2_lowBy_18 : decode cX2_lowBy 18 = .ok (.astore_n 3, 1) := by decide +kernel
theorem dX2_lowBy_19 : decode cX2_lowBy 19 = .ok (.aload_n 1, 1) := by decide +kernel
theorem dX2_lowBy_20 : decode cX2_lowBy 20 = .ok (.getfield 61, 3) := by decide +kernel
theorem dX2_lowBy_23 : decode cX2_lowBy 23 = .ok (.istore 4, 2) := by decide +kernel
theorem dX2_lowBy_25 : decode cX2_lowBy 25 = .ok (.aload_n 0, 1) := by decide +kernel
theorem dX2_lowBy_26 : decode cX2_lowBy 26 = .ok (.aload_n 3, 1) := by decide +kernel
theorem dX2_lowBy_27 : decode cX2_lowBy 27 = .ok (.iload 4, 2) := by decide +kernel
theorem dX2_lowBy_29 : decode cX2_lowBy 29 = .ok (.invokevirtual 64, 3) := by decide +kernel
theorem dX2_lowBy_32 : decode cX2_lowBy 32 = .ok (.istore 5, 2) := by decide +kernel
theorem dX2_lowBy_34 : decode cX2_lowBy 34 = .ok (.aload_n 0, 1) := by decide +kernel
theorem dX2_lowBy_35 : decode cX2_lowBy 35 = .ok (.getfield 25, 3) := by decide +kernel
theorem dX2_lowBy_38 : decode cX2_lowBy 38 = .ok (.aload_n 3, 1) := by decide +kernel
theorem dX2_lowBy_39 : decode cX2_lowBy 39 = .ok (.iload 5, 2) := by decide +kernel
theorem dX2_lowBy_41 : decode cX2_lowBy 41 = .ok (.laload, 1) := by decide +kernel
theorem dX2_lowBy_42 : decode cX2_lowBy 42 = .ok (.invokestatic 68, 3) := by decide +kernel
theorem dX2_lowBy_45 : decode cX2_lowBy 45 = .ok (.invokevirtual 74, 3) := by decide +kernel
theorem dX2_lowBy_48 : decode cX2_lowBy 48 = .ok (.aload_n 0, 1) := by decide +kernel
theorem dX2_lowBy_49 : decode cX2_lowBy 49 = .ok (.getfield 29, 3) := by decide +kernel
theorem dX2_lowBy_52 : decode cX2_lowBy 52 = .ok (.aload_n 0, 1) := by decide +kernel
theorem dX2_lowBy_53 : decode cX2_lowBy 53 = .ok (.getfield 11, 3) := by decide +kernel
theorem dX2_lowBy_56 : decode cX2_lowBy 56 = .ok (.iload_n 2, 1) := by decide +kernel
theorem dX2_lowBy_57 : decode cX2_lowBy 57 = .ok (.aaload, 1) := by decide +kernel
theorem dX2_lowBy_58 : decode cX2_lowBy 58 = .ok (.aload_n 0, 1) := by decide +kernel
theorem dX2_lowBy_59 : decode cX2_lowBy 59 = .ok (.getfield 25, 3) := by decide +kernel
theorem dX2_lowBy_62 : decode cX2_lowBy 62 = .ok (.invokevirtual 78, 3) := by decide +kernel
theorem dX2_lowBy_65 : decode cX2_lowBy 65 = .ok (.aload_n 0, 1) := by decide +kernel
theorem dX2_lowBy_66 : decode cX2_lowBy 66 = .ok (.getfield 29, 3) := by decide +kernel
theorem dX2_lowBy_69 : decode cX2_lowBy 69 = .ok (.aload_n 0, 1) := by decide +kernel
theorem dX2_lowBy_70 : decode cX2_lowBy 70 = .ok (.getfield 19, 3) := by decide +kernel
theorem dX2_lowBy_73 : decode cX2_lowBy 73 = .ok (.iload 4, 2) := by decide +kernel
theorem dX2_lowBy_75 : decode cX2_lowBy 75 = .ok (.aaload, 1) := by decide +kernel
theorem dX2_lowBy_76 : decode cX2_lowBy 76 = .ok (.iload 5, 2) := by decide +kernel
theorem dX2_lowBy_78 : decode cX2_lowBy 78 = .ok (.iaload, 1) := by decide +kernel
theorem dX2_lowBy_79 : decode cX2_lowBy 79 = .ok (.invokevirtual 82, 3) := by decide +kernel
theorem dX2_lowBy_82 : decode cX2_lowBy 82 = .ok (.aload_n 0, 1) := by decide +kernel
theorem dX2_lowBy_83 : decode cX2_lowBy 83 = .ok (.iload_n 2, 1) := by decide +kernel
theorem dX2_lowBy_84 : decode cX2_lowBy 84 = .ok (.invokevirtual 85, 3) := by decide +kernel
theorem dX2_lowBy_87 : decode cX2_lowBy 87 = .ok (.ireturn, 1) := by decide +kernel
theorem dX2_highBy_0 : decode cX2_highBy 0 = .ok (.iload_n 2, 1) := by decide +kernel
theorem dX2_highBy_1 : decode cX2_highBy 1 = .ok (.ifCond .lt 9, 3) := by decide +kernel
theorem dX2_highBy_4 : decode cX2_highBy 4 = .ok (.iload_n 2, 1) := by decide +kernel
theorem dX2_highBy_5 : decode cX2_highBy 5 = .ok (.bipush 6, 2) := by decide +kernel
theorem dX2_highBy_7 : decode cX2_highBy 7 = .ok (.if_icmp .le 5, 3) := by decide +kernel
theorem dX2_highBy_10 : decode cX2_highBy 10 = .ok (.iconst (-1), 1) := by decide +kernel
theorem dX2_highBy_11 : decode cX2_highBy 11 = .ok (.ireturn, 1) := by decide +kernel
theorem dX2_highBy_12 : decode cX2_highBy 12 = .ok (.aload_n 0, 1) := by decide +kernel
theorem dX2_highBy_13 : decode cX2_highBy 13 = .ok (.getfield 25, 3) := by decide +kernel
theorem dX2_highBy_16 : decode cX2_highBy 16 = .ok (.aload_n 1, 1) := by decide +kernel
theorem dX2_highBy_17 : decode cX2_highBy 17 = .ok (.getfield 55, 3) := by decide +kernel
theorem dX2_highBy_20 : decode cX2_highBy 20 = .ok (.iload_n 2, 1) := by decide +kernel
theorem dX2_highBy_21 : decode cX2_highBy 21 = .ok (.aaload, 1) := by decide +kernel
theorem dX2_highBy_22 : decode cX2_highBy 22 = .ok (.aload_n 1, 1) := by decide +kernel
theorem dX2_highBy_23 : decode cX2_highBy 23 = .ok (.getfield 61, 3) := by decide +kernel
theorem dX2_highBy_26 : decode cX2_highBy 26 = .ok (.invokevirtual 89, 3) := by decide +kernel
theorem dX2_highBy_29 : decode cX2_highBy 29 = .ok (.aload_n 0, 1) := by decide +kernel
theorem dX2_highBy_30 : decode cX2_highBy 30 = .ok (.getfield 29, 3) := by decide +kernel
theorem dX2_highBy_33 : decode cX2_highBy 33 = .ok (.aload_n 0, 1) := by decide +kernel
theorem dX2_highBy_34 : decode cX2_highBy 34 = .ok (.getfield 11, 3) := by decide +kernel
theorem dX2_highBy_37 : decode cX2_highBy 37 = .ok (.iload_n 2, 1) := by decide +kernel
theorem dX2_highBy_38 : decode cX2_highBy 38 = .ok (.iconst 1, 1) := by decide +kernel
theorem dX2_highBy_39 : decode cX2_highBy 39 = .ok (.iadd, 1) := by decide +kernel
theorem dX2_highBy_40 : decode cX2_highBy 40 = .ok (.aaload, 1) := by decide +kernel
theorem dX2_highBy_41 : decode cX2_highBy 41 = .ok (.aload_n 0, 1) := by decide +kernel
theorem dX2_highBy_42 : decode cX2_highBy 42 = .ok (.getfield 25, 3) := by decide +kernel
theorem dX2_highBy_45 : decode cX2_highBy 45 = .ok (.invokevirtual 78, 3) := by decide +kernel
theorem dX2_highBy_48 : decode cX2_highBy 48 = .ok (.aload_n 0, 1) := by decide +kernel
theorem dX2_highBy_49 : decode cX2_highBy 49 = .ok (.getfield 29, 3) := by decide +kernel
theorem dX2_highBy_52 : decode cX2_highBy 52 = .ok (.invokevirtual 93, 3) := by decide +kernel
theorem dX2_highBy_55 : decode cX2_highBy 55 = .ok (.aload_n 0, 1) := by decide +kernel
theorem dX2_highBy_56 : decode cX2_highBy 56 = .ok (.iload_n 2, 1) := by decide +kernel
theorem dX2_highBy_57 : decode cX2_highBy 57 = .ok (.iconst 1, 1) := by decide +kernel
theorem dX2_highBy_58 : decode cX2_highBy 58 = .ok (.iadd, 1) := by decide +kernel
theorem dX2_highBy_59 : decode cX2_highBy 59 = .ok (.invokevirtual 85, 3) := by decide +kernel
theorem dX2_highBy_62 : decode cX2_highBy 62 = .ok (.iconst 1, 1) := by decide +kernel
theorem dX2_highBy_63 : decode cX2_highBy 63 = .ok (.iadd, 1) := by decide +kernel
theorem dX2_highBy_64 : decode cX2_highBy 64 = .ok (.ireturn, 1) := by decide +kernel
theorem dX2_findGreatestLow_0 : decode cX2_findGreatestLow 0 = .ok (.aload_n 0, 1) := by decide +kernel
theorem dX2_findGreatestLow_1 : decode cX2_findGreatestLow 1 = .ok (.ldc 98, 2) := by decide +kernel
theorem dX2_findGreatestLow_3 : decode cX2_findGreatestLow 3 = .ok (.putfield 38, 3) := by decide +kernel
theorem dX2_findGreatestLow_6 : decode cX2_findGreatestLow 6 = .ok (.iconst 0, 1) := by decide +kernel
theorem dX2_findGreatestLow_7 : decode cX2_findGreatestLow 7 = .ok (.istore_n 2, 1) := by decide +kernel
theorem dX2_findGreatestLow_8 : decode cX2_findGreatestLow 8 = .ok (.iload_n 2, 1) := by decide +kernel
theorem dX2_findGreatestLow_9 : decode cX2_findGreatestLow 9 = .ok (.aload_n 1, 1) := by decide +kernel
theorem dX2_findGreatestLow_10 : decode cX2_findGreatestLow 10 = .ok (.getfield 99, 3) := by decide +kernel
theorem dX2_findGreatestLow_13 : decode cX2_findGreatestLow 13 = .ok (.if_icmp .gt 34, 3) := by decide +kernel
theorem dX2_findGreatestLow_16 : decode cX2_findGreatestLow 16 = .ok (.aload_n 0, 1) := by decide +kernel
theorem dX2_findGreatestLow_17 : decode cX2_findGreatestLow 17 = .ok (.aload_n 1, 1) := by decide +kernel
theorem dX2_findGreatestLow_18 : decode cX2_findGreatestLow 18 = .ok (.iload_n 2, 1) := by decide +kernel
theorem dX2_findGreatestLow_19 : decode cX2_findGreatestLow 19 = .ok (.invokevirtual 102, 3) := by decide +kernel
theorem dX2_findGreatestLow_22 : decode cX2_findGreatestLow 22 = .ok (.istore_n 3, 1) := by decide +kernel
theorem dX2_findGreatestLow_23 : decode cX2_findGreatestLow 23 = .ok (.iload_n 3, 1) := by decide +kernel
theorem dX2_findGreatestLow_24 : decode cX2_findGreatestLow 24 = .ok (.aload_n 0, 1) := by decide +kernel
theorem dX2_findGreatestLow_25 : decode cX2_findGreatestLow 25 = .ok (.getfield 38, 3) := by decide +kernel
theorem dX2_findGreatestLow_28 : decode cX2_findGreatestLow 28 = .ok (.if_icmp .le 13, 3) := by decide +kernel
theorem dX2_findGreatestLow_31 : decode cX2_findGreatestLow 31 = .ok (.aload_n 0, 1) := by decide +kernel
theorem dX2_findGreatestLow_32 : decode cX2_findGreatestLow 32 = .ok (.iload_n 3, 1) := by decide +kernel
theorem dX2_findGreatestLow_33 : decode cX2_findGreatestLow 33 = .ok (.putfield 38, 3) := by decide +kernel
theorem dX2_findGreatestLow_36 : decode cX2_findGreatestLow 36 = .ok (.aload_n 0, 1) := by decide +kernel
theorem dX2_findGreatestLow_37 : decode cX2_findGreatestLow 37 = .ok (.iload_n 2, 1) := by decide +kernel
theorem dX2_findGreatestLow_38 : decode cX2_findGreatestLow 38 = .ok (.putfield 42, 3) := by decide +kernel
theorem dX2_findGreatestLow_41 : decode cX2_findGreatestLow 41 = .ok (.iinc 2 1, 3) := by decide +kernel
theorem dX2_findGreatestLow_44 : decode cX2_findGreatestLow 44 = .ok (.goto (-36), 3) := by decide +kernel
theorem dX2_findGreatestLow_47 : decode cX2_findGreatestLow 47 = .ok (.return_, 1) := by decide +kernel
theorem dX2_findLeastHigh_0 : decode cX2_findLeastHigh 0 = .ok (.aload_n 0, 1) := by decide +kernel
theorem dX2_findLeastHigh_1 : decode cX2_findLeastHigh 1 = .ok (.ldc 106, 2) := by decide +kernel
theorem dX2_findLeastHigh_3 : decode cX2_findLeastHigh 3 = .ok (.putfield 38, 3) := by decide +kernel
theorem dX2_findLeastHigh_6 : decode cX2_findLeastHigh 6 = .ok (.iconst 0, 1) := by decide +kernel
theorem dX2_findLeastHigh_7 : decode cX2_findLeastHigh 7 = .ok (.istore_n 2, 1) := by decide +kernel
theorem dX2_findLeastHigh_8 : decode cX2_findLeastHigh 8 = .ok (.iload_n 2, 1) := by decide +kernel
theorem dX2_findLeastHigh_9 : decode cX2_findLeastHigh 9 = .ok (.aload_n 1, 1) := by decide +kernel
theorem dX2_findLeastHigh_10 : decode cX2_findLeastHigh 10 = .ok (.getfield 99, 3) := by decide +kernel
theorem dX2_findLeastHigh_13 : decode cX2_findLeastHigh 13 = .ok (.if_icmp .gt 34, 3) := by decide +kernel
theorem dX2_findLeastHigh_16 : decode cX2_findLeastHigh 16 = .ok (.aload_n 0, 1) := by decide +kernel
theorem dX2_findLeastHigh_17 : decode cX2_findLeastHigh 17 = .ok (.aload_n 1, 1) := by decide +kernel
theorem dX2_findLeastHigh_18 : decode cX2_findLeastHigh 18 = .ok (.iload_n 2, 1) := by decide +kernel
theorem dX2_findLeastHigh_19 : decode cX2_findLeastHigh 19 = .ok (.invokevirtual 107, 3) := by decide +kernel
theorem dX2_findLeastHigh_22 : decode cX2_findLeastHigh 22 = .ok (.istore_n 3, 1) := by decide +kernel
theorem dX2_findLeastHigh_23 : decode cX2_findLeastHigh 23 = .ok (.iload_n 3, 1) := by decide +kernel
theorem dX2_findLeastHigh_24 : decode cX2_findLeastHigh 24 = .ok (.aload_n 0, 1) := by decide +kernel
theorem dX2_findLeastHigh_25 : decode cX2_findLeastHigh 25 = .ok (.getfield 38, 3) := by decide +kernel
theorem dX2_findLeastHigh_28 : decode cX2_findLeastHigh 28 = .ok (.if_icmp .ge 13, 3) := by decide +kernel
theorem dX2_findLeastHigh_31 : decode cX2_findLeastHigh 31 = .ok (.aload_n 0, 1) := by decide +kernel
theorem dX2_findLeastHigh_32 : decode cX2_findLeastHigh 32 = .ok (.iload_n 3, 1) := by decide +kernel
theorem dX2_findLeastHigh_33 : decode cX2_findLeastHigh 33 = .ok (.putfield 38, 3) := by decide +kernel
theorem dX2_findLeastHigh_36 : decode cX2_findLeastHigh 36 = .ok (.aload_n 0, 1) := by decide +kernel
theorem dX2_findLeastHigh_37 : decode cX2_findLeastHigh 37 = .ok (.iload_n 2, 1) := by decide +kernel
theorem dX2_findLeastHigh_38 : decode cX2_findLeastHigh 38 = .ok (.putfield 42, 3) := by decide +kernel
theorem dX2_findLeastHigh_41 : decode cX2_findLeastHigh 41 = .ok (.iinc 2 1, 3) := by decide +kernel
theorem dX2_findLeastHigh_44 : decode cX2_findLeastHigh 44 = .ok (.goto (-36), 3) := by decide +kernel
theorem dX2_findLeastHigh_47 : decode cX2_findLeastHigh 47 = .ok (.return_, 1) := by decide +kernel
theorem dX2_setLimit_0 : decode cX2_setLimit 0 = .ok (.aload_n 0, 1) := by decide +kernel
theorem dX2_setLimit_1 : decode cX2_setLimit 1 = .ok (.iload_n 1, 1) := by decide +kernel
theorem dX2_setLimit_2 : decode cX2_setLimit 2 = .ok (.iload_n 2, 1) := by decide +kernel
theorem dX2_setLimit_3 : decode cX2_setLimit 3 = .ok (.iconst 1, 1) := by decide +kernel
theorem dX2_setLimit_4 : decode cX2_setLimit 4 = .ok (.iadd, 1) := by decide +kernel
theorem dX2_setLimit_5 : decode cX2_setLimit 5 = .ok (.invokevirtual 110, 3) := by decide +kernel
theorem dX2_setLimit_8 : decode cX2_setLimit 8 = .ok (.astore 4, 2) := by decide +kernel
theorem dX2_setLimit_10 : decode cX2_setLimit 10 = .ok (.iconst 0, 1) := by decide +kernel
theorem dX2_setLimit_11 : decode cX2_setLimit 11 = .ok (.istore 5, 2) := by decide +kernel
theorem dX2_setLimit_13 : decode cX2_setLimit 13 = .ok (.iload 5, 2) := by decide +kernel
theorem dX2_setLimit_15 : decode cX2_setLimit 15 = .ok (.iconst 1, 1) := by decide +kernel
theorem dX2_setLimit_16 : decode cX2_setLimit 16 = .ok (.iload_n 2, 1) := by decide +kernel
theorem dX2_setLimit_17 : decode cX2_setLimit 17 = .ok (.ishl, 1) := by decide +kernel
theorem dX2_setLimit_18 : decode cX2_setLimit 18 = .ok (.if_icmp .ge 16, 3) := by decide +kernel
theorem dX2_setLimit_21 : decode cX2_setLimit 21 = .ok (.aload 4, 2) := by decide +kernel
theorem dX2_setLimit_23 : decode cX2_setLimit 23 = .ok (.ldc 114, 2) := by decide +kernel
theorem dX2_setLimit_25 : decode cX2_setLimit 25 = .ok (.invokevirtual 82, 3) := by decide +kernel
theorem dX2_setLimit_28 : decode cX2_setLimit 28 = .ok (.iinc 5 1, 3) := by decide +kernel
theorem dX2_setLimit_31 : decode cX2_setLimit 31 = .ok (.goto (-18), 3) := by decide +kernel
theorem dX2_setLimit_34 : decode cX2_setLimit 34 = .ok (.aload_n 3, 1) := by decide +kernel
theorem dX2_setLimit_35 : decode cX2_setLimit 35 = .ok (.aload 4, 2) := by decide +kernel
theorem dX2_setLimit_37 : decode cX2_setLimit 37 = .ok (.invokevirtual 115, 3) := by decide +kernel
theorem dX2_setLimit_40 : decode cX2_setLimit 40 = .ok (.return_, 1) := by decide +kernel
theorem dX2_greatestShare_0 : decode cX2_greatestShare 0 = .ok (.iload_n 2, 1) := by decide +kernel
theorem dX2_greatestShare_1 : decode cX2_greatestShare 1 = .ok (.istore_n 3, 1) := by decide +kernel
theorem dX2_greatestShare_2 : decode cX2_greatestShare 2 = .ok (.aload_n 1, 1) := by decide +kernel
theorem dX2_greatestShare_3 : decode cX2_greatestShare 3 = .ok (.iload_n 2, 1) := by decide +kernel
theorem dX2_greatestShare_4 : decode cX2_greatestShare 4 = .ok (.laload, 1) := by decide +kernel
theorem dX2_greatestShare_5 : decode cX2_greatestShare 5 = .ok (.invokestatic 68, 3) := by decide +kernel
theorem dX2_greatestShare_8 : decode cX2_greatestShare 8 = .ok (.lneg, 1) := by decide +kernel
theorem dX2_greatestShare_9 : decode cX2_greatestShare 9 = .ok (.lstore 4, 2) := by decide +kernel
theorem dX2_greatestShare_11 : decode cX2_greatestShare 11 = .ok (.lconst 0, 1) := by decide +kernel
theorem dX2_greatestShare_12 : decode cX2_greatestShare 12 = .ok (.lstore 6, 2) := by decide +kernel
theorem dX2_greatestShare_14 : decode cX2_greatestShare 14 = .ok (.iconst 0, 1) := by decide +kernel
theorem dX2_greatestShare_15 : decode cX2_greatestShare 15 = .ok (.istore 8, 2) := by decide +kernel
theorem dX2_greatestShare_17 : decode cX2_greatestShare 17 = .ok (.iload 8, 2) := by decide +kernel
theorem dX2_greatestShare_19 : decode cX2_greatestShare 19 = .ok (.iload_n 2, 1) := by decide +kernel
theorem dX2_greatestShare_20 : decode cX2_greatestShare 20 = .ok (.if_icmp .ge 130, 3) := by decide +kernel
theorem dX2_greatestShare_23 : decode cX2_greatestShare 23 = .ok (.aload_n 1, 1) := by decide +kernel
theorem dX2_greatestShare_24 : decode cX2_greatestShare 24 = .ok (.iload 8, 2) := by decide +kernel
theorem dX2_greatestShare_26 : decode cX2_greatestShare 26 = .ok (.laload, 1) := by decide +kernel
theorem dX2_greatestShare_27 : decode cX2_greatestShare 27 = .ok (.lconst 0, 1) := by decide +kernel
theorem dX2_greatestShare_28 : decode cX2_greatestShare 28 = .ok (.lcmp, 1) := by decide +kernel
theorem dX2_greatestShare_29 : decode cX2_greatestShare 29 = .ok (.ifCond .le 11, 3) := by decide +kernel
theorem dX2_greatestShare_32 : decode cX2_greatestShare 32 = .ok (.aload_n 1, 1) := by decide +kernel
theorem dX2_greatestShare_33 : decode cX2_greatestShare 33 = .ok (.iload 8, 2) := by decide +kernel
theorem dX2_greatestShare_35 : decode cX2_greatestShare 35 = .ok (.laload, 1) := by decide +kernel
theorem dX2_greatestShare_36 : decode cX2_greatestShare 36 = .ok (.lneg, 1) := by decide +kernel
theorem dX2_greatestShare_37 : decode cX2_greatestShare 37 = .ok (.goto 7, 3) := by decide +kernel
theorem dX2_greatestShare_40 : decode cX2_greatestShare 40 = .ok (.aload_n 1, 1) := by decide +kernel
theorem dX2_greatestShare_41 : decode cX2_greatestShare 41 = .ok (.iload 8, 2) := by decide +kernel
theorem dX2_greatestShare_43 : decode cX2_greatestShare 43 = .ok (.laload, 1) := by decide +kernel
theorem dX2_greatestShare_44 : decode cX2_greatestShare 44 = .ok (.lstore 9, 2) := by decide +kernel
theorem dX2_greatestShare_46 : decode cX2_greatestShare 46 = .ok (.lload 9, 2) := by decide +kernel
theorem dX2_greatestShare_48 : decode cX2_greatestShare 48 = .ok (.aload_n 0, 1) := by decide +kernel
theorem dX2_greatestShare_49 : decode cX2_greatestShare 49 = .ok (.getfield 19, 3) := by decide +kernel
theorem dX2_greatestShare_52 : decode cX2_greatestShare 52 = .ok (.iload_n 2, 1) := by decide +kernel
theorem dX2_greatestShare_53 : decode cX2_greatestShare 53 = .ok (.aaload, 1) := by decide +kernel
theorem dX2_greatestShare_54 : decode cX2_greatestShare 54 = .ok (.iload 8, 2) := by decide +kernel
theorem dX2_greatestShare_56 : decode cX2_greatestShare 56 = .ok (.iaload, 1) := by decide +kernel
theorem dX2_greatestShare_57 : decode cX2_greatestShare 57 = .ok (.i2l, 1) := by decide +kernel
theorem dX2_greatestShare_58 : decode cX2_greatestShare 58 = .ok (.ldiv, 1) := by decide +kernel
theorem dX2_greatestShare_59 : decode cX2_greatestShare 59 = .ok (.lstore 11, 2) := by decide +kernel
theorem dX2_greatestShare_61 : decode cX2_greatestShare 61 = .ok (.lload 9, 2) := by decide +kernel
theorem dX2_greatestShare_63 : decode cX2_greatestShare 63 = .ok (.aload_n 0, 1) := by decide +kernel
theorem dX2_greatestShare_64 : decode cX2_greatestShare 64 = .ok (.getfield 19, 3) := by decide +kernel
theorem dX2_greatestShare_67 : decode cX2_greatestShare 67 = .ok (.iload_n 2, 1) := by decide +kernel
theorem dX2_greatestShare_68 : decode cX2_greatestShare 68 = .ok (.aaload, 1) := by decide +kernel
theorem dX2_greatestShare_69 : decode cX2_greatestShare 69 = .ok (.iload 8, 2) := by decide +kernel
theorem dX2_greatestShare_71 : decode cX2_greatestShare 71 = .ok (.iaload, 1) := by decide +kernel
theorem dX2_greatestShare_72 : decode cX2_greatestShare 72 = .ok (.i2l, 1) := by decide +kernel
theorem dX2_greatestShare_73 : decode cX2_greatestShare 73 = .ok (.lrem, 1) := by decide +kernel
theorem dX2_greatestShare_74 : decode cX2_greatestShare 74 = .ok (.lstore 13, 2) := by decide +kernel
theorem dX2_greatestShare_76 : decode cX2_greatestShare 76 = .ok (.lload 11, 2) := by decide +kernel
theorem dX2_greatestShare_78 : decode cX2_greatestShare 78 = .ok (.lload 4, 2) := by decide +kernel
theorem dX2_greatestShare_80 : decode cX2_greatestShare 80 = .ok (.lcmp, 1) := by decide +kernel
theorem dX2_greatestShare_81 : decode cX2_greatestShare 81 = .ok (.ifCond .lt 40, 3) := by decide +kernel
theorem dX2_greatestShare_84 : decode cX2_greatestShare 84 = .ok (.lload 11, 2) := by decide +kernel
theorem dX2_greatestShare_86 : decode cX2_greatestShare 86 = .ok (.lload 4, 2) := by decide +kernel
theorem dX2_greatestShare_88 : decode cX2_greatestShare 88 = .ok (.lcmp, 1) := by decide +kernel
theorem dX2_greatestShare_89 : decode cX2_greatestShare 89 = .ok (.ifCond .ne 36, 3) := by decide +kernel
theorem dX2_greatestShare_92 : decode cX2_greatestShare 92 = .ok (.lload 13, 2) := by decide +kernel
theorem dX2_greatestShare_94 : decode cX2_greatestShare 94 = .ok (.aload_n 0, 1) := by decide +kernel
theorem dX2_greatestShare_95 : decode cX2_greatestShare 95 = .ok (.getfield 19, 3) := by decide +kernel
theorem dX2_greatestShare_98 : decode cX2_greatestShare 98 = .ok (.iload_n 2, 1) := by decide +kernel
theorem dX2_greatestShare_99 : decode cX2_greatestShare 99 = .ok (.aaload, 1) := by decide +kernel
theorem dX2_greatestShare_100 : decode cX2_greatestShare 100 = .ok (.iload_n 3, 1) := by decide +kernel
theorem dX2_greatestShare_101 : decode cX2_greatestShare 101 = .ok (.iaload, 1) := by decide +kernel
theorem dX2_greatestShare_102 : decode cX2_greatestShare 102 = .ok (.i2l, 1) := by decide +kernel
theorem dX2_greatestShare_103 : decode cX2_greatestShare 103 = .ok (.lmul, 1) := by decide +kernel
theorem dX2_greatestShare_104 : decode cX2_greatestShare 104 = .ok (.lload 6, 2) := by decide +kernel
theorem dX2_greatestShare_106 : decode cX2_greatestShare 106 = .ok (.aload_n 0, 1) := by decide +kernel
theorem dX2_greatestShare_107 : decode cX2_greatestShare 107 = .ok (.getfield 19, 3) := by decide +kernel
theorem dX2_greatestShare_110 : decode cX2_greatestShare 110 = .ok (.iload_n 2, 1) := by decide +kernel
theorem dX2_greatestShare_111 : decode cX2_greatestShare 111 = .ok (.aaload, 1) := by decide +kernel
theorem dX2_greatestShare_112 : decode cX2_greatestShare 112 = .ok (.iload 8, 2) := by decide +kernel
theorem dX2_greatestShare_114 : decode cX2_greatestShare 114 = .ok (.iaload, 1) := by decide +kernel
theorem dX2_greatestShare_115 : decode cX2_greatestShare 115 = .ok (.i2l, 1) := by decide +kernel
theorem dX2_greatestShare_116 : decode cX2_greatestShare 116 = .ok (.lmul, 1) := by decide +kernel
theorem dX2_greatestShare_117 : decode cX2_greatestShare 117 = .ok (.lcmp, 1) := by decide +kernel
theorem dX2_greatestShare_118 : decode cX2_greatestShare 118 = .ok (.ifCond .ge 7, 3) := by decide +kernel
theorem dX2_greatestShare_121 : decode cX2_greatestShare 121 = .ok (.iconst 1, 1) := by decide +kernel
theorem dX2_greatestShare_122 : decode cX2_greatestShare 122 = .ok (.goto 4, 3) := by decide +kernel
theorem dX2_greatestShare_125 : decode cX2_greatestShare 125 = .ok (.iconst 0, 1) := by decide +kernel
theorem dX2_greatestShare_126 : decode cX2_greatestShare 126 = .ok (.istore 15, 2) := by decide +kernel
theorem dX2_greatestShare_128 : decode cX2_greatestShare 128 = .ok (.iload 15, 2) := by decide +kernel
theorem dX2_greatestShare_130 : decode cX2_greatestShare 130 = .ok (.ifCond .eq 14, 3) := by decide +kernel
theorem dX2_greatestShare_133 : decode cX2_greatestShare 133 = .ok (.iload 8, 2) := by decide +kernel
theorem dX2_greatestShare_135 : decode cX2_greatestShare 135 = .ok (.istore_n 3, 1) := by decide +kernel
theorem dX2_greatestShare_136 : decode cX2_greatestShare 136 = .ok (.lload 11, 2) := by decide +kernel
theorem dX2_greatestShare_138 : decode cX2_greatestShare 138 = .ok (.lstore 4, 2) := by decide +kernel
theorem dX2_greatestShare_140 : decode cX2_greatestShare 140 = .ok (.lload 13, 2) := by decide +kernel
theorem dX2_greatestShare_142 : decode cX2_greatestShare 142 = .ok (.lstore 6, 2) := by decide +kernel
theorem dX2_greatestShare_144 : decode cX2_greatestShare 144 = .ok (.iinc 8 1, 3) := by decide +kernel
theorem dX2_greatestShare_147 : decode cX2_greatestShare 147 = .ok (.goto (-130), 3) := by decide +kernel
theorem dX2_greatestShare_150 : decode cX2_greatestShare 150 = .ok (.iload_n 3, 1) := by decide +kernel
theorem dX2_greatestShare_151 : decode cX2_greatestShare 151 = .ok (.ireturn, 1) := by decide +kernel
theorem dX2_root_0 : decode cX2_root 0 = .ok (.aload_n 0, 1) := by decide +kernel
theorem dX2_root_1 : decode cX2_root 1 = .ok (.iload_n 1, 1) := by decide +kernel
theorem dX2_root_2 : decode cX2_root 2 = .ok (.invokevirtual 118, 3) := by decide +kernel
theorem dX2_root_5 : decode cX2_root 5 = .ok (.istore_n 2, 1) := by decide +kernel
theorem dX2_root_6 : decode cX2_root 6 = .ok (.iload_n 2, 1) := by decide +kernel
theorem dX2_root_7 : decode cX2_root 7 = .ok (.ldc 121, 2) := by decide +kernel
theorem dX2_root_9 : decode cX2_root 9 = .ok (.if_icmp .ge 27, 3) := by decide +kernel
theorem dX2_root_12 : decode cX2_root 12 = .ok (.aload_n 0, 1) := by decide +kernel
theorem dX2_root_13 : decode cX2_root 13 = .ok (.iload_n 2, 1) := by decide +kernel
theorem dX2_root_14 : decode cX2_root 14 = .ok (.iconst 1, 1) := by decide +kernel
theorem dX2_root_15 : decode cX2_root 15 = .ok (.iadd, 1) := by decide +kernel
theorem dX2_root_16 : decode cX2_root 16 = .ok (.iload_n 1, 1) := by decide +kernel
theorem dX2_root_17 : decode cX2_root 17 = .ok (.invokevirtual 110, 3) := by decide +kernel
theorem dX2_root_20 : decode cX2_root 20 = .ok (.aload_n 0, 1) := by decide +kernel
theorem dX2_root_21 : decode cX2_root 21 = .ok (.getfield 29, 3) := by decide +kernel
theorem dX2_root_24 : decode cX2_root 24 = .ok (.invokevirtual 122, 3) := by decide +kernel
theorem dX2_root_27 : decode cX2_root 27 = .ok (.ifCond .ne 9, 3) := by decide +kernel
theorem dX2_root_30 : decode cX2_root 30 = .ok (.iinc 2 1, 3) := by decide +kernel
theorem dX2_root_33 : decode cX2_root 33 = .ok (.goto (-27), 3) := by decide +kernel
theorem dX2_root_36 : decode cX2_root 36 = .ok (.iload_n 2, 1) := by decide +kernel
theorem dX2_root_37 : decode cX2_root 37 = .ok (.ireturn, 1) := by decide +kernel
theorem dX2_guessRoot_0 : decode cX2_guessRoot 0 = .ok (.lconst 0, 1) := by decide +kernel
theorem dX2_guessRoot_1 : decode cX2_guessRoot 1 = .ok (.lstore_n 2, 1) := by decide +kernel
theorem dX2_guessRoot_2 : decode cX2_guessRoot 2 = .ok (.aload_n 0, 1) := by decide +kernel
theorem dX2_guessRoot_3 : decode cX2_guessRoot 3 = .ok (.getfield 29, 3) := by decide +kernel
theorem dX2_guessRoot_6 : decode cX2_guessRoot 6 = .ok (.getfield 48, 3) := by decide +kernel
theorem dX2_guessRoot_9 : decode cX2_guessRoot 9 = .ok (.istore 4, 2) := by decide +kernel
theorem dX2_guessRoot_11 : decode cX2_guessRoot 11 = .ok (.iload 4, 2) := by decide +kernel
theorem dX2_guessRoot_13 : decode cX2_guessRoot 13 = .ok (.ifCond .le 33, 3) := by decide +kernel
theorem dX2_guessRoot_16 : decode cX2_guessRoot 16 = .ok (.lload_n 2, 1) := by decide +kernel
theorem dX2_guessRoot_17 : decode cX2_guessRoot 17 = .ok (.ldc2_w 126, 3) := by decide +kernel
theorem dX2_guessRoot_20 : decode cX2_guessRoot 20 = .ok (.lcmp, 1) := by decide +kernel
theorem dX2_guessRoot_21 : decode cX2_guessRoot 21 = .ok (.ifCond .ge 25, 3) := by decide +kernel
theorem dX2_guessRoot_24 : decode cX2_guessRoot 24 = .ok (.iinc 4 (-1), 3) := by decide +kernel
theorem dX2_guessRoot_27 : decode cX2_guessRoot 27 = .ok (.lload_n 2, 1) := by decide +kernel
theorem dX2_guessRoot_28 : decode cX2_guessRoot 28 = .ok (.bipush 28, 2) := by decide +kernel
theorem dX2_guessRoot_30 : decode cX2_guessRoot 30 = .ok (.lshl, 1) := by decide +kernel
theorem dX2_guessRoot_31 : decode cX2_guessRoot 31 = .ok (.aload_n 0, 1) := by decide +kernel
theorem dX2_guessRoot_32 : decode cX2_guessRoot 32 = .ok (.getfield 29, 3) := by decide +kernel
theorem dX2_guessRoot_35 : decode cX2_guessRoot 35 = .ok (.getfield 128, 3) := by decide +kernel
theorem dX2_guessRoot_38 : decode cX2_guessRoot 38 = .ok (.iload 4, 2) := by decide +kernel
theorem dX2_guessRoot_40 : decode cX2_guessRoot 40 = .ok (.laload, 1) := by decide +kernel
theorem dX2_guessRoot_41 : decode cX2_guessRoot 41 = .ok (.lor, 1) := by decide +kernel
theorem dX2_guessRoot_42 : decode cX2_guessRoot 42 = .ok (.lstore_n 2, 1) := by decide +kernel
theorem dX2_guessRoot_43 : decode cX2_guessRoot 43 = .ok (.goto (-32), 3) := by decide +kernel
theorem dX2_guessRoot_46 : decode cX2_guessRoot 46 = .ok (.bipush 28, 2) := by decide +kernel
theorem dX2_guessRoot_48 : decode cX2_guessRoot 48 = .ok (.iload 4, 2) := by decide +kernel
theorem dX2_guessRoot_50 : decode cX2_guessRoot 50 = .ok (.imul, 1) := by decide +kernel
theorem dX2_guessRoot_51 : decode cX2_guessRoot 51 = .ok (.istore 5, 2) := by decide +kernel
theorem dX2_guessRoot_53 : decode cX2_guessRoot 53 = .ok (.iconst 0, 1) := by decide +kernel
theorem dX2_guessRoot_54 : decode cX2_guessRoot 54 = .ok (.istore 6, 2) := by decide +kernel
theorem dX2_guessRoot_56 : decode cX2_guessRoot 56 = .ok (.iload 6, 2) := by decide +kernel
theorem dX2_guessRoot_58 : decode cX2_guessRoot 58 = .ok (.bipush 31, 2) := by decide +kernel
theorem dX2_guessRoot_60 : decode cX2_guessRoot 60 = .ok (.if_icmp .ge 24, 3) := by decide +kernel
theorem dX2_guessRoot_63 : decode cX2_guessRoot 63 = .ok (.lload_n 2, 1) := by decide +kernel
theorem dX2_guessRoot_64 : decode cX2_guessRoot 64 = .ok (.ldc2_w 132, 3) := by decide +kernel
theorem dX2_guessRoot_67 : decode cX2_guessRoot 67 = .ok (.lcmp, 1) := by decide +kernel
theorem dX2_guessRoot_68 : decode cX2_guessRoot 68 = .ok (.ifCond .ge 16, 3) := by decide +kernel
theorem dX2_guessRoot_71 : decode cX2_guessRoot 71 = .ok (.lload_n 2, 1) := by decide +kernel
theorem dX2_guessRoot_72 : decode cX2_guessRoot 72 = .ok (.iconst 2, 1) := by decide +kernel
theorem dX2_guessRoot_73 : decode cX2_guessRoot 73 = .ok (.lshl, 1) := by decide +kernel
theorem dX2_guessRoot_74 : decode cX2_guessRoot 74 = .ok (.lstore_n 2, 1) := by decide +kernel
theorem dX2_guessRoot_75 : decode cX2_guessRoot 75 = .ok (.iinc 5 (-2), 3) := by decide +kernel
theorem dX2_guessRoot_78 : decode cX2_guessRoot 78 = .ok (.iinc 6 1, 3) := by decide +kernel
theorem dX2_guessRoot_81 : decode cX2_guessRoot 81 = .ok (.goto (-25), 3) := by decide +kernel
theorem dX2_guessRoot_84 : decode cX2_guessRoot 84 = .ok (.iconst 0, 1) := by decide +kernel
theorem dX2_guessRoot_85 : decode cX2_guessRoot 85 = .ok (.istore 6, 2) := by decide +kernel
theorem dX2_guessRoot_87 : decode cX2_guessRoot 87 = .ok (.iload 6, 2) := by decide +kernel
theorem dX2_guessRoot_89 : decode cX2_guessRoot 89 = .ok (.iload_n 1, 1) := by decide +kernel
theorem dX2_guessRoot_90 : decode cX2_guessRoot 90 = .ok (.if_icmp .ge 40, 3) := by decide +kernel
theorem dX2_guessRoot_93 : decode cX2_guessRoot 93 = .ok (.lload_n 2, 1) := by decide +kernel
theorem dX2_guessRoot_94 : decode cX2_guessRoot 94 = .ok (.invokestatic 134, 3) := by decide +kernel
theorem dX2_guessRoot_97 : decode cX2_guessRoot 97 = .ok (.bipush 30, 2) := by decide +kernel
theorem dX2_guessRoot_99 : decode cX2_guessRoot 99 = .ok (.lshl, 1) := by decide +kernel
theorem dX2_guessRoot_100 : decode cX2_guessRoot 100 = .ok (.lstore_n 2, 1) := by decide +kernel
theorem dX2_guessRoot_101 : decode cX2_guessRoot 101 = .ok (.iload 5, 2) := by decide +kernel
theorem dX2_guessRoot_103 : decode cX2_guessRoot 103 = .ok (.iconst 2, 1) := by decide +kernel
theorem dX2_guessRoot_104 : decode cX2_guessRoot 104 = .ok (.idiv, 1) := by decide +kernel
theorem dX2_guessRoot_105 : decode cX2_guessRoot 105 = .ok (.bipush 30, 2) := by decide +kernel
theorem dX2_guessRoot_107 : decode cX2_guessRoot 107 = .ok (.isub, 1) := by decide +kernel
theorem dX2_guessRoot_108 : decode cX2_guessRoot 108 = .ok (.istore 5, 2) := by decide +kernel
theorem dX2_guessRoot_110 : decode cX2_guessRoot 110 = .ok (.iload 5, 2) := by decide +kernel
theorem dX2_guessRoot_112 : decode cX2_guessRoot 112 = .ok (.iconst 2, 1) := by decide +kernel
theorem dX2_guessRoot_113 : decode cX2_guessRoot 113 = .ok (.irem, 1) := by decide +kernel
theorem dX2_guessRoot_114 : decode cX2_guessRoot 114 = .ok (.ifCond .eq 10, 3) := by decide +kernel
theorem dX2_guessRoot_117 : decode cX2_guessRoot 117 = .ok (.lload_n 2, 1) := by decide +kernel
theorem dX2_guessRoot_118 : decode cX2_guessRoot 118 = .ok (.iconst 1, 1) := by decide +kernel
theorem dX2_guessRoot_119 : decode cX2_guessRoot 119 = .ok (.lshl, 1) := by decide +kernel
theorem dX2_guessRoot_120 : decode cX2_guessRoot 120 = .ok (.lstore_n 2, 1) := by decide +kernel
theorem dX2_guessRoot_121 : decode cX2_guessRoot 121 = .ok (.iinc 5 (-1), 3) := by decide +kernel
theorem dX2_guessRoot_124 : decode cX2_guessRoot 124 = .ok (.iinc 6 1, 3) := by decide +kernel
theorem dX2_guessRoot_127 : decode cX2_guessRoot 127 = .ok (.goto (-40), 3) := by decide +kernel
theorem dX2_guessRoot_130 : decode cX2_guessRoot 130 = .ok (.iload 5, 2) := by decide +kernel
theorem dX2_guessRoot_132 : decode cX2_guessRoot 132 = .ok (.bipush (-63), 2) := by decide +kernel
theorem dX2_guessRoot_134 : decode cX2_guessRoot 134 = .ok (.if_icmp .gt 5, 3) := by decide +kernel
theorem dX2_guessRoot_137 : decode cX2_guessRoot 137 = .ok (.iconst 0, 1) := by decide +kernel
theorem dX2_guessRoot_138 : decode cX2_guessRoot 138 = .ok (.ireturn, 1) := by decide +kernel
theorem dX2_guessRoot_139 : decode cX2_guessRoot 139 = .ok (.iload 5, 2) := by decide +kernel
theorem dX2_guessRoot_141 : decode cX2_guessRoot 141 = .ok (.ifCond .le 8, 3) := by decide +kernel
theorem dX2_guessRoot_144 : decode cX2_guessRoot 144 = .ok (.ldc 121, 2) := by decide +kernel
theorem dX2_guessRoot_146 : decode cX2_guessRoot 146 = .ok (.goto 15, 3) := by decide +kernel
theorem dX2_guessRoot_149 : decode cX2_guessRoot 149 = .ok (.ldc2_w 137, 3) := by decide +kernel
theorem dX2_guessRoot_152 : decode cX2_guessRoot 152 = .ok (.lload_n 2, 1) := by decide +kernel
theorem dX2_guessRoot_153 : decode cX2_guessRoot 153 = .ok (.iload 5, 2) := by decide +kernel
theorem dX2_guessRoot_155 : decode cX2_guessRoot 155 = .ok (.ineg, 1) := by decide +kernel
theorem dX2_guessRoot_156 : decode cX2_guessRoot 156 = .ok (.lshr, 1) := by decide +kernel
theorem dX2_guessRoot_157 : decode cX2_guessRoot 157 = .ok (.invokestatic 139, 3) := by decide +kernel
theorem dX2_guessRoot_160 : decode cX2_guessRoot 160 = .ok (.l2i, 1) := by decide +kernel
theorem dX2_guessRoot_161 : decode cX2_guessRoot 161 = .ok (.ireturn, 1) := by decide +kernel
theorem dX2_squareRoot_0 : decode cX2_squareRoot 0 = .ok (.ldc2_w 143, 3) := by decide +kernel
theorem dX2_squareRoot_3 : decode cX2_squareRoot 3 = .ok (.lstore_n 2, 1) := by decide +kernel
theorem dX2_squareRoot_4 : decode cX2_squareRoot 4 = .ok (.iconst 0, 1) := by decide +kernel
theorem dX2_squareRoot_5 : decode cX2_squareRoot 5 = .ok (.istore 4, 2) := by decide +kernel
theorem dX2_squareRoot_7 : decode cX2_squareRoot 7 = .ok (.iload 4, 2) := by decide +kernel
theorem dX2_squareRoot_9 : decode cX2_squareRoot 9 = .ok (.bipush 64, 2) := by decide +kernel
theorem dX2_squareRoot_11 : decode cX2_squareRoot 11 = .ok (.if_icmp .ge 40, 3) := by decide +kernel
theorem dX2_squareRoot_14 : decode cX2_squareRoot 14 = .ok (.lload_n 2, 1) := by decide +kernel
theorem dX2_squareRoot_15 : decode cX2_squareRoot 15 = .ok (.lconst 0, 1) := by decide +kernel
theorem dX2_squareRoot_16 : decode cX2_squareRoot 16 = .ok (.lcmp, 1) := by decide +kernel
theorem dX2_squareRoot_17 : decode cX2_squareRoot 17 = .ok (.ifCond .gt 7, 3) := by decide +kernel
theorem dX2_squareRoot_20 : decode cX2_squareRoot 20 = .ok (.lload_n 2, 1) := by decide +kernel
theorem dX2_squareRoot_21 : decode cX2_squareRoot 21 = .ok (.goto 10, 3) := by decide +kernel
theorem dX2_squareRoot_24 : decode cX2_squareRoot 24 = .ok (.lload_n 2, 1) := by decide +kernel
theorem dX2_squareRoot_25 : decode cX2_squareRoot 25 = .ok (.lload_n 0, 1) := by decide +kernel
theorem dX2_squareRoot_26 : decode cX2_squareRoot 26 = .ok (.lload_n 2, 1) := by decide +kernel
theorem dX2_squareRoot_27 : decode cX2_squareRoot 27 = .ok (.ldiv, 1) := by decide +kernel
theorem dX2_squareRoot_28 : decode cX2_squareRoot 28 = .ok (.ladd, 1) := by decide +kernel
theorem dX2_squareRoot_29 : decode cX2_squareRoot 29 = .ok (.iconst 1, 1) := by decide +kernel
theorem dX2_squareRoot_30 : decode cX2_squareRoot 30 = .ok (.lshr, 1) := by decide +kernel
theorem dX2_squareRoot_31 : decode cX2_squareRoot 31 = .ok (.lstore 5, 2) := by decide +kernel
theorem dX2_squareRoot_33 : decode cX2_squareRoot 33 = .ok (.lload 5, 2) := by decide +kernel
theorem dX2_squareRoot_35 : decode cX2_squareRoot 35 = .ok (.lload_n 2, 1) := by decide +kernel
theorem dX2_squareRoot_36 : decode cX2_squareRoot 36 = .ok (.lcmp, 1) := by decide +kernel
theorem dX2_squareRoot_37 : decode cX2_squareRoot 37 = .ok (.ifCond .lt 5, 3) := by decide +kernel
theorem dX2_squareRoot_40 : decode cX2_squareRoot 40 = .ok (.lload_n 2, 1) := by decide +kernel
theorem dX2_squareRoot_41 : decode cX2_squareRoot 41 = .ok (.lreturn, 1) := by decide +kernel
theorem dX2_squareRoot_42 : decode cX2_squareRoot 42 = .ok (.lload 5, 2) := by decide +kernel
theorem dX2_squareRoot_44 : decode cX2_squareRoot 44 = .ok (.lstore_n 2, 1) := by decide +kernel
theorem dX2_squareRoot_45 : decode cX2_squareRoot 45 = .ok (.iinc 4 1, 3) := by decide +kernel
theorem dX2_squareRoot_48 : decode cX2_squareRoot 48 = .ok (.goto (-41), 3) := by decide +kernel
theorem dX2_squareRoot_51 : decode cX2_squareRoot 51 = .ok (.lload_n 2, 1) := by decide +kernel
theorem dX2_squareRoot_52 : decode cX2_squareRoot 52 = .ok (.lreturn, 1) := by decide +kernel
theorem dX2_powerOf_0 : decode cX2_powerOf 0 = .ok (.aload_n 0, 1) := by decide +kernel
theorem dX2_powerOf_1 : decode cX2_powerOf 1 = .ok (.getfield 32, 3) := by decide +kernel
theorem dX2_powerOf_4 : decode cX2_powerOf 4 = .ok (.astore_n 3, 1) := by decide +kernel
theorem dX2_powerOf_5 : decode cX2_powerOf 5 = .ok (.aload_n 0, 1) := by decide +kernel
theorem dX2_powerOf_6 : decode cX2_powerOf 6 = .ok (.getfield 35, 3) := by decide +kernel
theorem dX2_powerOf_9 : decode cX2_powerOf 9 = .ok (.astore 4, 2) := by decide +kernel
theorem dX2_powerOf_11 : decode cX2_powerOf 11 = .ok (.aload_n 3, 1) := by decide +kernel
theorem dX2_powerOf_12 : decode cX2_powerOf 12 = .ok (.iload_n 1, 1) := by decide +kernel
theorem dX2_powerOf_13 : decode cX2_powerOf 13 = .ok (.invokevirtual 45, 3) := by decide +kernel
theorem dX2_powerOf_16 : decode cX2_powerOf 16 = .ok (.iconst 0, 1) := by decide +kernel
theorem dX2_powerOf_17 : decode cX2_powerOf 17 = .ok (.istore 5, 2) := by decide +kernel
theorem dX2_powerOf_19 : decode cX2_powerOf 19 = .ok (.iload 5, 2) := by decide +kernel
theorem dX2_powerOf_21 : decode cX2_powerOf 21 = .ok (.iload_n 2, 1) := by decide +kernel
theorem dX2_powerOf_22 : decode cX2_powerOf 22 = .ok (.if_icmp .ge 25, 3) := by decide +kernel
theorem dX2_powerOf_25 : decode cX2_powerOf 25 = .ok (.aload 4, 2) := by decide +kernel
theorem dX2_powerOf_27 : decode cX2_powerOf 27 = .ok (.aload_n 3, 1) := by decide +kernel
theorem dX2_powerOf_28 : decode cX2_powerOf 28 = .ok (.invokevirtual 51, 3) := by decide +kernel
theorem dX2_powerOf_31 : decode cX2_powerOf 31 = .ok (.aload_n 3, 1) := by decide +kernel
theorem dX2_powerOf_32 : decode cX2_powerOf 32 = .ok (.astore 6, 2) := by decide +kernel
theorem dX2_powerOf_34 : decode cX2_powerOf 34 = .ok (.aload 4, 2) := by decide +kernel
theorem dX2_powerOf_36 : decode cX2_powerOf 36 = .ok (.astore_n 3, 1) := by decide +kernel
theorem dX2_powerOf_37 : decode cX2_powerOf 37 = .ok (.aload 6, 2) := by decide +kernel
theorem dX2_powerOf_39 : decode cX2_powerOf 39 = .ok (.astore 4, 2) := by decide +kernel
theorem dX2_powerOf_41 : decode cX2_powerOf 41 = .ok (.iinc 5 1, 3) := by decide +kernel
theorem dX2_powerOf_44 : decode cX2_powerOf 44 = .ok (.goto (-25), 3) := by decide +kernel
theorem dX2_powerOf_47 : decode cX2_powerOf 47 = .ok (.aload_n 3, 1) := by decide +kernel
theorem dX2_powerOf_48 : decode cX2_powerOf 48 = .ok (.areturn, 1) := by decide +kernel
theorem dX3_init_0 : decode cX3_init 0 = .ok (.aload_n 0, 1) := by decide +kernel
theorem dX3_init_1 : decode cX3_init 1 = .ok (.invokespecial 3, 3) := by decide +kernel
theorem dX3_init_4 : decode cX3_init 4 = .ok (.aload_n 0, 1) := by decide +kernel
theorem dX3_init_5 : decode cX3_init 5 = .ok (.bipush 7, 2) := by decide +kernel
theorem dX3_init_7 : decode cX3_init 7 = .ok (.anewarray 9, 3) := by decide +kernel
theorem dX3_init_10 : decode cX3_init 10 = .ok (.putfield 11, 3) := by decide +kernel
theorem dX3_init_13 : decode cX3_init 13 = .ok (.aload_n 0, 1) := by decide +kernel
theorem dX3_init_14 : decode cX3_init 14 = .ok (.new 9, 3) := by decide +kernel
theorem dX3_init_17 : decode cX3_init 17 = .ok (.dup, 1) := by decide +kernel
theorem dX3_init_18 : decode cX3_init 18 = .ok (.bipush 8, 2) := by decide +kernel
theorem dX3_init_20 : decode cX3_init 20 = .ok (.invokespecial 17, 3) := by decide +kernel
theorem dX3_init_23 : decode cX3_init 23 = .ok (.putfield 20, 3) := by decide +kernel
theorem dX3_init_26 : decode cX3_init 26 = .ok (.aload_n 0, 1) := by decide +kernel
theorem dX3_init_27 : decode cX3_init 27 = .ok (.bipush 13, 2) := by decide +kernel
theorem dX3_init_29 : decode cX3_init 29 = .ok (.newarray .long, 2) := by decide +kernel
theorem dX3_init_31 : decode cX3_init 31 = .ok (.putfield 24, 3) := by decide +kernel
theorem dX3_init_34 : decode cX3_init 34 = .ok (.aload_n 0, 1) := by decide +kernel
theorem dX3_init_35 : decode cX3_init 35 = .ok (.sipush 480, 3) := by decide +kernel
theorem dX3_init_38 : decode cX3_init 38 = .ok (.newarray .int, 2) := by decide +kernel
theorem dX3_init_40 : decode cX3_init 40 = .ok (.putfield 30, 3) := by decide +kernel
theorem dX3_init_43 : decode cX3_init 43 = .ok (.aload_n 0, 1) := by decide +kernel
theorem dX3_init_44 : decode cX3_init 44 = .ok (.iconst 0, 1) := by decide +kernel
theorem dX3_init_45 : decode cX3_init 45 = .ok (.putfield 34, 3) := by decide +kernel
theorem dX3_init_48 : decode cX3_init 48 = .ok (.aload_n 0, 1) := by decide +kernel
theorem dX3_init_49 : decode cX3_init 49 = .ok (.iconst 0, 1) := by decide +kernel
theorem dX3_init_50 : decode cX3_init 50 = .ok (.putfield 38, 3) := by decide +kernel
theorem dX3_init_53 : decode cX3_init 53 = .ok (.aload_n 0, 1) := by decide +kernel
theorem dX3_init_54 : decode cX3_init 54 = .ok (.iconst 0, 1) := by decide +kernel
theorem dX3_init_55 : decode cX3_init 55 = .ok (.putfield 41, 3) := by decide +kernel
theorem dX3_init_58 : decode cX3_init 58 = .ok (.aload_n 0, 1) := by decide +kernel
theorem dX3_init_59 : decode cX3_init 59 = .ok (.iconst 0, 1) := by decide +kernel
theorem dX3_init_60 : decode cX3_init 60 = .ok (.putfield 44, 3) := by decide +kernel
theorem dX3_init_63 : decode cX3_init 63 = .ok (.aload_n 0, 1) := by decide +kernel
theorem dX3_init_64 : decode cX3_init 64 = .ok (.iconst 0, 1) := by decide +kernel
theorem dX3_init_65 : decode cX3_init 65 = .ok (.putfield 47, 3) := by decide +kernel
theorem dX3_init_68 : decode cX3_init 68 = .ok (.aload_n 0, 1) := by decide +kernel
theorem dX3_init_69 : decode cX3_init 69 = .ok (.iconst 0, 1) := by decide +kernel
theorem dX3_init_70 : decode cX3_init 70 = .ok (.putfield 50, 3) := by decide +kernel
theorem dX3_init_73 : decode cX3_init 73 = .ok (.iconst 0, 1) := by decide +kernel
theorem dX3_init_74 : decode cX3_init 74 = .ok (.istore_n 1, 1) := by decide +kernel
theorem dX3_init_75 : decode cX3_init 75 = .ok (.iload_n 1, 1) := by decide +kernel
theorem dX3_init_76 : decode cX3_init 76 = .ok (.bipush 6, 2) := by decide +kernel
theorem dX3_init_78 : decode cX3_init 78 = .ok (.if_icmp .gt 24, 3) := by decide +kernel
theorem dX3_init_81 : decode cX3_init 81 = .ok (.aload_n 0, 1) := by decide +kernel
theorem dX3_init_82 : decode cX3_init 82 = .ok (.getfield 11, 3) := by decide +kernel
theorem dX3_init_85 : decode cX3_init 85 = .ok (.iload_n 1, 1) := by decide +kernel
theorem dX3_init_86 : decode cX3_init 86 = .ok (.new 9, 3) := by decide +kernel
theorem dX3_init_89 : decode cX3_init 89 = .ok (.dup, 1) := by decide +kernel
theorem dX3_init_90 : decode cX3_init 90 = .ok (.bipush 24, 2) := by decide +kernel
theorem dX3_init_92 : decode cX3_init 92 = .ok (.invokespecial 17, 3) := by decide +kernel
theorem dX3_init_95 : decode cX3_init 95 = .ok (.aastore, 1) := by decide +kernel
theorem dX3_init_96 : decode cX3_init 96 = .ok (.iinc 1 1, 3) := by decide +kernel
theorem dX3_init_99 : decode cX3_init 99 = .ok (.goto (-24), 3) := by decide +kernel
theorem dX3_init_102 : decode cX3_init 102 = .ok (.return_, 1) := by decide +kernel
theorem dX3_boxSize_0 : decode cX3_boxSize 0 = .ok (.iconst 1, 1) := by decide +kernel
theorem dX3_boxSize_1 : decode cX3_boxSize 1 = .ok (.istore_n 2, 1) := by decide +kernel
theorem dX3_boxSize_2 : decode cX3_boxSize 2 = .ok (.iconst 1, 1) := by decide +kernel
theorem dX3_boxSize_3 : decode cX3_boxSize 3 = .ok (.istore_n 3, 1) := by decide +kernel
theorem dX3_boxSize_4 : decode cX3_boxSize 4 = .ok (.iload_n 3, 1) := by decide +kernel
theorem dX3_boxSize_5 : decode cX3_boxSize 5 = .ok (.iload_n 0, 1) := by decide +kernel
theorem dX3_boxSize_6 : decode cX3_boxSize 6 = .ok (.iconst 2, 1) := by decide +kernel
theorem dX3_boxSize_7 : decode cX3_boxSize 7 = .ok (.idiv, 1) := by decide +kernel
theorem dX3_boxSize_8 : decode cX3_boxSize 8 = .ok (.if_icmp .gt 23, 3) := by decide +kernel
theorem dX3_boxSize_11 : decode cX3_boxSize 11 = .ok (.iload_n 3, 1) := by decide +kernel
theorem dX3_boxSize_12 : decode cX3_boxSize 12 = .ok (.bipush 13, 2) := by decide +kernel
theorem dX3_boxSize_14 : decode cX3_boxSize 14 = .ok (.if_icmp .ge 17, 3) := by decide +kernel
theorem dX3_boxSize_17 : decode cX3_boxSize 17 = .ok (.iload_n 2, 1) := by decide +kernel
theorem dX3_boxSize_18 : decode cX3_boxSize 18 = .ok (.iconst 2, 1) := by decide +kernel
theorem dX3_boxSize_19 : decode cX3_boxSize 19 = .ok (.iload_n 1, 1) := by decide +kernel
theorem dX3_boxSize_20 : decode cX3_boxSize 20 = .ok (.imul, 1) := by decide +kernel
theorem dX3_boxSize_21 : decode cX3_boxSize 21 = .ok (.iconst 1, 1) := by decide +kernel
theorem dX3_boxSize_22 : decode cX3_boxSize 22 = .ok (.iadd, 1) := by decide +kernel
theorem dX3_boxSize_23 : decode cX3_boxSize 23 = .ok (.imul, 1) := by decide +kernel
theorem dX3_boxSize_24 : decode cX3_boxSize 24 = .ok (.istore_n 2, 1) := by decide +kernel
theorem dX3_boxSize_25 : decode cX3_boxSize 25 = .ok (.iinc 3 1, 3) := by decide +kernel
theorem dX3_boxSize_28 : decode cX3_boxSize 28 = .ok (.goto (-24), 3) := by decide +kernel
theorem dX3_boxSize_31 : decode cX3_boxSize 31 = .ok (.iload_n 2, 1) := by decide +kernel
theorem dX3_boxSize_32 : decode cX3_boxSize 32 = .ok (.ireturn, 1) := by decide +kernel
theorem dX3_begin_0 : decode cX3_begin 0 = .ok (.aload_n 0, 1) := by decide +kernel
theorem dX3_begin_1 : decode cX3_begin 1 = .ok (.iconst 0, 1) := by decide +kernel
theorem dX3_begin_2 : decode cX3_begin 2 = .ok (.iload_n 1, 1) := by decide +kernel
theorem dX3_begin_3 : decode cX3_begin 3 = .ok (.bipush 12, 2) := by decide +kernel
theorem dX3_begin_5 : decode cX3_begin 5 = .ok (.invokestatic 53, 3) := by decide +kernel
theorem dX3_begin_8 : decode cX3_begin 8 = .ok (.invokestatic 59, 3) := by decide +kernel
theorem dX3_begin_11 : decode cX3_begin 11 = .ok (.putfield 34, 3) := by decide +kernel
theorem dX3_begin_14 : decode cX3_begin 14 = .ok (.aload_n 0, 1) := by decide +kernel
theorem dX3_begin_15 : decode cX3_begin 15 = .ok (.iload_n 2, 1) := by decide +kernel
theorem dX3_begin_16 : decode cX3_begin 16 = .ok (.putfield 38, 3) := by decide +kernel
theorem dX3_begin_19 : decode cX3_begin 19 = .ok (.aload_n 0, 1) := by decide +kernel
theorem dX3_begin_20 : decode cX3_begin 20 = .ok (.iconst 0, 1) := by decide +kernel
theorem dX3_begin_21 : decode cX3_begin 21 = .ok (.putfield 44, 3) := by decide +kernel
theorem dX3_begin_24 : decode cX3_begin 24 = .ok (.aload_n 0, 1) := by decide +kernel
theorem dX3_begin_25 : decode cX3_begin 25 = .ok (.iconst 0, 1) := by decide +kernel
theorem dX3_begin_26 : decode cX3_begin 26 = .ok (.putfield 47, 3) := by decide +kernel
theorem dX3_begin_29 : decode cX3_begin 29 = .ok (.aload_n 0, 1) := by decide +kernel
theorem dX3_begin_30 : decode cX3_begin 30 = .ok (.iconst 0, 1) := by decide +kernel
theorem dX3_begin_31 : decode cX3_begin 31 = .ok (.putfield 50, 3) := by decide +kernel
theorem dX3_begin_34 : decode cX3_begin 34 = .ok (.aload_n 0, 1) := by decide +kernel
theorem dX3_begin_35 : decode cX3_begin 35 = .ok (.getfield 24, 3) := by decide +kernel
theorem dX3_begin_38 : decode cX3_begin 38 = .ok (.lconst 0, 1) := by decide +kernel
theorem dX3_begin_39 : decode cX3_begin 39 = .ok (.invokestatic 62, 3) := by decide +kernel
theorem dX3_begin_42 : decode cX3_begin 42 = .ok (.aload_n 0, 1) := by decide +kernel
theorem dX3_begin_43 : decode cX3_begin 43 = .ok (.getfield 24, 3) := by decide +kernel
theorem dX3_begin_46 : decode cX3_begin 46 = .ok (.iconst 0, 1) := by decide +kernel
theorem dX3_begin_47 : decode cX3_begin 47 = .ok (.aload_n 0, 1) := by decide +kernel
theorem dX3_begin_48 : decode cX3_begin 48 = .ok (.getfield 34, 3) := by decide +kernel
theorem dX3_begin_51 : decode cX3_begin 51 = .ok (.aload_n 0, 1) := by decide +kernel
theorem dX3_begin_52 : decode cX3_begin 52 = .ok (.getfield 38, 3) := by decide +kernel
theorem dX3_begin_55 : decode cX3_begin 55 = .ok (.ineg, 1) := by decide +kernel
theorem dX3_begin_56 : decode cX3_begin 56 = .ok (.i2l, 1) := by decide +kernel
theorem dX3_begin_57 : decode cX3_begin 57 = .ok (.invokestatic 68, 3) := by decide +kernel
theorem dX3_begin_60 : decode cX3_begin 60 = .ok (.aload_n 0, 1) := by decide +kernel
theorem dX3_begin_61 : decode cX3_begin 61 = .ok (.iconst 0, 1) := by decide +kernel
theorem dX3_begin_62 : decode cX3_begin 62 = .ok (.lconst 1, 1) := by decide +kernel
theorem dX3_begin_63 : decode cX3_begin 63 = .ok (.invokevirtual 71, 3) := by decide +kernel
theorem dX3_begin_66 : decode cX3_begin 66 = .ok (.return_, 1) := by decide +kernel
theorem dX3_setLimits_0 : decode cX3_setLimits 0 = .ok (.aload_n 0, 1) := by decide +kernel
theorem dX3_setLimits_1 : decode cX3_setLimits 1 = .ok (.iconst 0, 1) := by decide +kernel
theorem dX3_setLimits_2 : decode cX3_setLimits 2 = .ok (.iload_n 1, 1) := by decide +kernel
theorem dX3_setLimits_3 : decode cX3_setLimits 3 = .ok (.bipush 6, 2) := by decide +kernel
theorem dX3_setLimits_5 : decode cX3_setLimits 5 = .ok (.invokestatic 53, 3) := by decide +kernel
theorem dX3_setLimits_8 : decode cX3_setLimits 8 = .ok (.invokestatic 59, 3) := by decide +kernel
theorem dX3_setLimits_11 : decode cX3_setLimits 11 = .ok (.putfield 41, 3) := by decide +kernel
theorem dX3_setLimits_14 : decode cX3_setLimits 14 = .ok (.iconst 0, 1) := by decide +kernel
theorem dX3_setLimits_15 : decode cX3_setLimits 15 = .ok (.istore 4, 2) := by decide +kernel
theorem dX3_setLimits_17 : decode cX3_setLimits 17 = .ok (.iload 4, 2) := by decide +kernel
theorem dX3_setLimits_19 : decode cX3_setLimits 19 = .ok (.aload_n 0, 1) := by decide +kernel
theorem dX3_setLimits_20 : decode cX3_setLimits 20 = .ok (.getfield 41, 3) := by decide +kernel
theorem dX3_setLimits_23 : decode cX3_setLimits 23 = .ok (.if_icmp .gt 23, 3) := by decide +kernel
theorem dX3_setLimits_26 : decode cX3_setLimits 26 = .ok (.aload_n 3, 1) := by decide +kernel
theorem dX3_setLimits_27 : decode cX3_setLimits 27 = .ok (.iload_n 2, 1) := by decide +kernel
theorem dX3_setLimits_28 : decode cX3_setLimits 28 = .ok (.iload 4, 2) := by decide +kernel
theorem dX3_setLimits_30 : decode cX3_setLimits 30 = .ok (.aload_n 0, 1) := by decide +kernel
theorem dX3_setLimits_31 : decode cX3_setLimits 31 = .ok (.getfield 11, 3) := by decide +kernel
theorem dX3_setLimits_34 : decode cX3_setLimits 34 = .ok (.iload 4, 2) := by decide +kernel
theorem dX3_setLimits_36 : decode cX3_setLimits 36 = .ok (.aaload, 1) := by decide +kernel
theorem dX3_setLimits_37 : decode cX3_setLimits 37 = .ok (.invokevirtual 75, 3) := by decide +kernel
theorem dX3_setLimits_40 : decode cX3_setLimits 40 = .ok (.iinc 4 1, 3) := by decide +kernel
theorem dX3_setLimits_43 : decode cX3_setLimits 43 = .ok (.goto (-26), 3) := by decide +kernel
theorem dX3_setLimits_46 : decode cX3_setLimits 46 = .ok (.return_, 1) := by decide +kernel
theorem dX3_goOn_0 : decode cX3_goOn 0 = .ok (.aload_n 0, 1) := by decide +kernel
theorem dX3_goOn_1 : decode cX3_goOn 1 = .ok (.getfield 34, 3) := by decide +kernel
theorem dX3_goOn_4 : decode cX3_goOn 4 = .ok (.iconst 2, 1) := by decide +kernel
theorem dX3_goOn_5 : decode cX3_goOn 5 = .ok (.idiv, 1) := by decide +kernel
theorem dX3_goOn_6 : decode cX3_goOn 6 = .ok (.istore_n 1, 1) := by decide +kernel
theorem dX3_goOn_7 : decode cX3_goOn 7 = .ok (.iload_n 1, 1) := by decide +kernel
theorem dX3_goOn_8 : decode cX3_goOn 8 = .ok (.ifCond .le 35, 3) := by decide +kernel
theorem dX3_goOn_11 : decode cX3_goOn 11 = .ok (.aload_n 0, 1) := by decide +kernel
theorem dX3_goOn_12 : decode cX3_goOn 12 = .ok (.getfield 24, 3) := by decide +kernel
theorem dX3_goOn_15 : decode cX3_goOn 15 = .ok (.iload_n 1, 1) := by decide +kernel
theorem dX3_goOn_16 : decode cX3_goOn 16 = .ok (.laload, 1) := by decide +kernel
theorem dX3_goOn_17 : decode cX3_goOn 17 = .ok (.aload_n 0, 1) := by decide +kernel
theorem dX3_goOn_18 : decode cX3_goOn 18 = .ok (.getfield 38, 3) := by decide +kernel
theorem dX3_goOn_21 : decode cX3_goOn 21 = .ok (.i2l, 1) := by decide +kernel
theorem dX3_goOn_22 : decode cX3_goOn 22 = .ok (.lcmp, 1) := by decide +kernel
theorem dX3_goOn_23 : decode cX3_goOn 23 = .ok (.ifCond .lt 20, 3) := by decide +kernel
theorem dX3_goOn_26 : decode cX3_goOn 26 = .ok (.aload_n 0, 1) := by decide +kernel
theorem dX3_goOn_27 : decode cX3_goOn 27 = .ok (.iload_n 1, 1) := by decide +kernel
theorem dX3_goOn_28 : decode cX3_goOn 28 = .ok (.aload_n 0, 1) := by decide +kernel
theorem dX3_goOn_29 : decode cX3_goOn 29 = .ok (.getfield 38, 3) := by decide +kernel
theorem dX3_goOn_32 : decode cX3_goOn 32 = .ok (.ineg, 1) := by decide +kernel
theorem dX3_goOn_33 : decode cX3_goOn 33 = .ok (.i2l, 1) := by decide +kernel
theorem dX3_goOn_34 : decode cX3_goOn 34 = .ok (.invokevirtual 71, 3) := by decide +kernel
theorem dX3_goOn_37 : decode cX3_goOn 37 = .ok (.iinc 1 (-1), 3) := by decide +kernel
theorem dX3_goOn_40 : decode cX3_goOn 40 = .ok (.goto (-33), 3) := by decide +kernel
theorem dX3_goOn_43 : decode cX3_goOn 43 = .ok (.iload_n 1, 1) := by decide +kernel
theorem dX3_goOn_44 : decode cX3_goOn 44 = .ok (.ifCond .le 16, 3) := by decide +kernel
theorem dX3_goOn_47 : decode cX3_goOn 47 = .ok (.aload_n 0, 1) := by decide +kernel
theorem dX3_goOn_48 : decode cX3_goOn 48 = .ok (.iload_n 1, 1) := by decide +kernel
theorem dX3_goOn_49 : decode cX3_goOn 49 = .ok (.aload_n 0, 1) := by decide +kernel
theorem dX3_goOn_50 : decode cX3_goOn 50 = .ok (.getfield 24, 3) := by decide +kernel
theorem dX3_goOn_53 : decode cX3_goOn 53 = .ok (.iload_n 1, 1) := by decide +kernel
theorem dX3_goOn_54 : decode cX3_goOn 54 = .ok (.laload, 1) := by decide +kernel
theorem dX3_goOn_55 : decode cX3_goOn 55 = .ok (.lconst 1, 1) := by decide +kernel
theorem dX3_goOn_56 : decode cX3_goOn 56 = .ok (.ladd, 1) := by decide +kernel
theorem dX3_goOn_57 : decode cX3_goOn 57 = .ok (.invokevirtual 71, 3) := by decide +kernel
theorem dX3_goOn_60 : decode cX3_goOn 60 = .ok (.return_, 1) := by decide +kernel
theorem dX3_isFound_0 : decode cX3_isFound 0 = .ok (.aload_n 0, 1) := by decide +kernel
theorem dX3_isFound_1 : decode cX3_isFound 1 = .ok (.dup, 1) := by decide +kernel
theorem dX3_isFound_2 : decode cX3_isFound 2 = .ok (.getfield 47, 3) := by decide +kernel
theorem dX3_isFound_5 : decode cX3_isFound 5 = .ok (.iconst 1, 1) := by decide +kernel
theorem dX3_isFound_6 : decode cX3_isFound 6 = .ok (.iadd, 1) := by decide +kernel
theorem dX3_isFound_7 : decode cX3_isFound 7 = .ok (.putfield 47, 3) := by decide +kernel
theorem dX3_isFound_10 : decode cX3_isFound 10 = .ok (.aload_n 2, 1) := by decide +kernel
theorem dX3_isFound_11 : decode cX3_isFound 11 = .ok (.aload_n 0, 1) := by decide +kernel
theorem dX3_isFound_12 : decode cX3_isFound 12 = .ok (.getfield 24, 3) := by decide +kernel
theorem dX3_isFound_15 : decode cX3_isFound 15 = .ok (.aload_n 0, 1) := by decide +kernel
theorem dX3_isFound_16 : decode cX3_isFound 16 = .ok (.getfield 34, 3) := by decide +kernel
theorem dX3_isFound_19 : decode cX3_isFound 19 = .ok (.invokevirtual 81, 3) := by decide +kernel
theorem dX3_isFound_22 : decode cX3_isFound 22 = .ok (.aload_n 2, 1) := by decide +kernel
theorem dX3_isFound_23 : decode cX3_isFound 23 = .ok (.invokevirtual 87, 3) := by decide +kernel
theorem dX3_isFound_26 : decode cX3_isFound 26 = .ok (.ifCond .eq 15, 3) := by decide +kernel
theorem dX3_isFound_29 : decode cX3_isFound 29 = .ok (.aload_n 0, 1) := by decide +kernel
theorem dX3_isFound_30 : decode cX3_isFound 30 = .ok (.dup, 1) := by decide +kernel
theorem dX3_isFound_31 : decode cX3_isFound 31 = .ok (.getfield 50, 3) := by decide +kernel
theorem dX3_isFound_34 : decode cX3_isFound 34 = .ok (.iconst 1, 1) := by decide +kernel
theorem dX3_isFound_35 : decode cX3_isFound 35 = .ok (.iadd, 1) := by decide +kernel
theorem dX3_isFound_36 : decode cX3_isFound 36 = .ok (.putfield 50, 3) := by decide +kernel
theorem dX3_isFound_39 : decode cX3_isFound 39 = .ok (.iconst 0, 1) := by decide +kernel
theorem dX3_isFound_40 : decode cX3_isFound 40 = .ok (.ireturn, 1) := by decide +kernel
theorem dX3_isFound_41 : decode cX3_isFound 41 = .ok (.aload_n 1, 1) := by decide +kernel
theorem dX3_isFound_42 : decode cX3_isFound 42 = .ok (.aload_n 0, 1) := by decide +kernel
theorem dX3_isFound_43 : decode cX3_isFound 43 = .ok (.getfield 24, 3) := by decide +kernel
theorem dX3_isFound_46 : decode cX3_isFound 46 = .ok (.aload_n 0, 1) := by decide +kernel
theorem dX3_isFound_47 : decode cX3_isFound 47 = .ok (.getfield 34, 3) := by decide +kernel
theorem dX3_isFound_50 : decode cX3_isFound 50 = .ok (.aload_n 0, 1) := by decide +kernel
theorem dX3_isFound_51 : decode cX3_isFound 51 = .ok (.getfield 41, 3) := by decide +kernel
theorem dX3_isFound_54 : decode cX3_isFound 54 = .ok (.invokevirtual 91, 3) := by decide +kernel
theorem dX3_isFound_57 : decode cX3_isFound 57 = .ok (.istore_n 3, 1) := by decide +kernel
theorem dX3_isFound_58 : decode cX3_isFound 58 = .ok (.aload_n 0, 1) := by decide +kernel
theorem dX3_isFound_59 : decode cX3_isFound 59 = .ok (.getfield 20, 3) := by decide +kernel
theorem dX3_isFound_62 : decode cX3_isFound 62 = .ok (.aload_n 1, 1) := by decide +kernel
theorem dX3_isFound_63 : decode cX3_isFound 63 = .ok (.getfield 97, 3) := by decide +kernel
theorem dX3_isFound_66 : decode cX3_isFound 66 = .ok (.iload_n 3, 1) := by decide +kernel
theorem dX3_isFound_67 : decode cX3_isFound 67 = .ok (.aaload, 1) := by decide +kernel
theorem dX3_isFound_68 : decode cX3_isFound 68 = .ok (.aload_n 0, 1) := by decide +kernel
theorem dX3_isFound_69 : decode cX3_isFound 69 = .ok (.getfield 34, 3) := by decide +kernel
theorem dX3_isFound_72 : decode cX3_isFound 72 = .ok (.invokevirtual 101, 3) := by decide +kernel
theorem dX3_isFound_75 : decode cX3_isFound 75 = .ok (.aload_n 0, 1) := by decide +kernel
theorem dX3_isFound_76 : decode cX3_isFound 76 = .ok (.getfield 20, 3) := by decide +kernel
theorem dX3_isFound_79 : decode cX3_isFound 79 = .ok (.aload_n 0, 1) := by decide +kernel
theorem dX3_isFound_80 : decode cX3_isFound 80 = .ok (.getfield 11, 3) := by decide +kernel
theorem dX3_isFound_83 : decode cX3_isFound 83 = .ok (.iload_n 3, 1) := by decide +kernel
theorem dX3_isFound_84 : decode cX3_isFound 84 = .ok (.aaload, 1) := by decide +kernel
theorem dX3_isFound_85 : decode cX3_isFound 85 = .ok (.invokevirtual 104, 3) := by decide +kernel
theorem dX3_isFound_88 : decode cX3_isFound 88 = .ok (.ifCond .ne 7, 3) := by decide +kernel
theorem dX3_isFound_91 : decode cX3_isFound 91 = .ok (.iconst 1, 1) := by decide +kernel
theorem dX3_isFound_92 : decode cX3_isFound 92 = .ok (.goto 4, 3) := by decide +kernel
theorem dX3_isFound_95 : decode cX3_isFound 95 = .ok (.iconst 0, 1) := by decide +kernel
theorem dX3_isFound_96 : decode cX3_isFound 96 = .ok (.ireturn, 1) := by decide +kernel
theorem dX3_keep_0 : decode cX3_keep 0 = .ok (.aload_n 0, 1) := by decide +kernel
theorem dX3_keep_1 : decode cX3_keep 1 = .ok (.getfield 44, 3) := by decide +kernel
theorem dX3_keep_4 : decode cX3_keep 4 = .ok (.bipush 30, 2) := by decide +kernel
theorem dX3_keep_6 : decode cX3_keep 6 = .ok (.if_icmp .ge 93, 3) := by decide +kernel
theorem dX3_keep_9 : decode cX3_keep 9 = .ok (.aload_n 0, 1) := by decide +kernel
theorem dX3_keep_10 : decode cX3_keep 10 = .ok (.getfield 44, 3) := by decide +kernel
theorem dX3_keep_13 : decode cX3_keep 13 = .ok (.bipush 16, 2) := by decide +kernel
theorem dX3_keep_15 : decode cX3_keep 15 = .ok (.imul, 1) := by decide +kernel
theorem dX3_keep_16 : decode cX3_keep 16 = .ok (.istore_n 3, 1) := by decide +kernel
theorem dX3_keep_17 : decode cX3_keep 17 = .ok (.iconst 0, 1) := by decide +kernel
theorem dX3_keep_18 : decode cX3_keep 18 = .ok (.istore 4, 2) := by decide +kernel
theorem dX3_keep_20 : decode cX3_keep 20 = .ok (.iload 4, 2) := by decide +kernel
theorem dX3_keep_22 : decode cX3_keep 22 = .ok (.bipush 13, 2) := by decide +kernel
theorem dX3_keep_24 : decode cX3_keep 24 = .ok (.if_icmp .ge 26, 3) := by decide +kernel
theorem dX3_keep_27 : decode cX3_keep 27 = .ok (.aload_n 0, 1) := by decide +kernel
theorem dX3_keep_28 : decode cX3_keep 28 = .ok (.getfield 30, 3) := by decide +kernel
theorem dX3_keep_31 : decode cX3_keep 31 = .ok (.iload_n 3, 1) := by decide +kernel
theorem dX3_keep_32 : decode cX3_keep 32 = .ok (.iload 4, 2) := by decide +kernel
theorem dX3_keep_34 : decode cX3_keep 34 = .ok (.iadd, 1) := by decide +kernel
theorem dX3_keep_35 : decode cX3_keep 35 = .ok (.aload_n 0, 1) := by decide +kernel
theorem dX3_keep_36 : decode cX3_keep 36 = .ok (.getfield 24, 3) := by decide +kernel
theorem dX3_keep_39 : decode cX3_keep 39 = .ok (.iload 4, 2) := by decide +kernel
theorem dX3_keep_41 : decode cX3_keep 41 = .ok (.laload, 1) := by decide +kernel
theorem dX3_keep_42 : decode cX3_keep 42 = .ok (.l2i, 1) := by decide +kernel
theorem dX3_keep_43 : decode cX3_keep 43 = .ok (.iastore, 1) := by decide +kernel
theorem dX3_keep_44 : decode cX3_keep 44 = .ok (.iinc 4 1, 3) := by decide +kernel
theorem dX3_keep_47 : decode cX3_keep 47 = .ok (.goto (-27), 3) := by decide +kernel
theorem dX3_keep_50 : decode cX3_keep 50 = .ok (.aload_n 0, 1) := by decide +kernel
theorem dX3_keep_51 : decode cX3_keep 51 = .ok (.getfield 30, 3) := by decide +kernel
theorem dX3_keep_54 : decode cX3_keep 54 = .ok (.iload_n 3, 1) := by decide +kernel
theorem dX3_keep_55 : decode cX3_keep 55 = .ok (.bipush 13, 2) := by decide +kernel
theorem dX3_keep_57 : decode cX3_keep 57 = .ok (.iadd, 1) := by decide +kernel
theorem dX3_keep_58 : decode cX3_keep 58 = .ok (.aload_n 2, 1) := by decide +kernel
theorem dX3_keep_59 : decode cX3_keep 59 = .ok (.aload_n 1, 1) := by decide +kernel
theorem dX3_keep_60 : decode cX3_keep 60 = .ok (.aload_n 1, 1) := by decide +kernel
theorem dX3_keep_61 : decode cX3_keep 61 = .ok (.getfield 108, 3) := by decide +kernel
theorem dX3_keep_64 : decode cX3_keep 64 = .ok (.invokevirtual 111, 3) := by decide +kernel
theorem dX3_keep_67 : decode cX3_keep 67 = .ok (.iastore, 1) := by decide +kernel
theorem dX3_keep_68 : decode cX3_keep 68 = .ok (.aload_n 0, 1) := by decide +kernel
theorem dX3_keep_69 : decode cX3_keep 69 = .ok (.getfield 30, 3) := by decide +kernel
theorem dX3_keep_72 : decode cX3_keep 72 = .ok (.iload_n 3, 1) := by decide +kernel
theorem dX3_keep_73 : decode cX3_keep 73 = .ok (.bipush 14, 2) := by decide +kernel
theorem dX3_keep_75 : decode cX3_keep 75 = .ok (.iadd, 1) := by decide +kernel
theorem dX3_keep_76 : decode cX3_keep 76 = .ok (.aload_n 2, 1) := by decide +kernel
theorem dX3_keep_77 : decode cX3_keep 77 = .ok (.aload_n 1, 1) := by decide +kernel
theorem dX3_keep_78 : decode cX3_keep 78 = .ok (.aload_n 1, 1) := by decide +kernel
theorem dX3_keep_79 : decode cX3_keep 79 = .ok (.getfield 108, 3) := by decide +kernel
theorem dX3_keep_82 : decode cX3_keep 82 = .ok (.invokevirtual 115, 3) := by decide +kernel
theorem dX3_keep_85 : decode cX3_keep 85 = .ok (.iastore, 1) := by decide +kernel
theorem dX3_keep_86 : decode cX3_keep 86 = .ok (.aload_n 0, 1) := by decide +kernel
theorem dX3_keep_87 : decode cX3_keep 87 = .ok (.getfield 30, 3) := by decide +kernel
theorem dX3_keep_90 : decode cX3_keep 90 = .ok (.iload_n 3, 1) := by decide +kernel
theorem dX3_keep_91 : decode cX3_keep 91 = .ok (.bipush 15, 2) := by decide +kernel
theorem dX3_keep_93 : decode cX3_keep 93 = .ok (.iadd, 1) := by decide +kernel
theorem dX3_keep_94 : decode cX3_keep 94 = .ok (.aload_n 1, 1) := by decide +kernel
theorem dX3_keep_95 : decode cX3_keep 95 = .ok (.getfield 108, 3) := by decide +kernel
theorem dX3_keep_98 : decode cX3_keep 98 = .ok (.iastore, 1) := by decide +kernel
theorem dX3_keep_99 : decode cX3_keep 99 = .ok (.aload_n 0, 1) := by decide +kernel
theorem dX3_keep_100 : decode cX3_keep 100 = .ok (.dup, 1) := by decide +kernel
theorem dX3_keep_101 : decode cX3_keep 101 = .ok (.getfield 44, 3) := by decide +kernel
theorem dX3_keep_104 : decode cX3_keep 104 = .ok (.iconst 1, 1) := by decide +kernel
theorem dX3_keep_105 : decode cX3_keep 105 = .ok (.iadd, 1) := by decide +kernel
theorem dX3_keep_106 : decode cX3_keep 106 = .ok (.putfield 44, 3) := by decide +kernel
theorem dX3_keep_109 : decode cX3_keep 109 = .ok (.return_, 1) := by decide +kernel
theorem dX3_told_0 : decode cX3_told 0 = .ok (.aload_n 0, 1) := by decide +kernel
theorem dX3_told_1 : decode cX3_told 1 = .ok (.getfield 44, 3) := by decide +kernel
theorem dX3_told_4 : decode cX3_told 4 = .ok (.bipush 30, 2) := by decide +kernel
theorem dX3_told_6 : decode cX3_told 6 = .ok (.invokestatic 53, 3) := by decide +kernel
theorem dX3_told_9 : decode cX3_told 9 = .ok (.istore_n 1, 1) := by decide +kernel
theorem dX3_told_10 : decode cX3_told 10 = .ok (.new 28, 3) := by decide +kernel
theorem dX3_told_13 : decode cX3_told 13 = .ok (.dup, 1) := by decide +kernel
theorem dX3_told_14 : decode cX3_told 14 = .ok (.aload_n 0, 1) := by decide +kernel
theorem dX3_told_15 : decode cX3_told 15 = .ok (.getfield 34, 3) := by decide +kernel
theorem dX3_told_18 : decode cX3_told 18 = .ok (.aload_n 0, 1) := by decide +kernel
theorem dX3_told_19 : decode cX3_told 19 = .ok (.getfield 44, 3) := by decide +kernel
theorem dX3_told_22 : decode cX3_told 22 = .ok (.aload_n 0, 1) := by decide +kernel
theorem dX3_told_23 : decode cX3_told 23 = .ok (.getfield 47, 3) := by decide +kernel
theorem dX3_told_26 : decode cX3_told 26 = .ok (.aload_n 0, 1) := by decide +kernel
theorem dX3_told_27 : decode cX3_told 27 = .ok (.getfield 50, 3) := by decide +kernel
theorem dX3_told_30 : decode cX3_told 30 = .ok (.aload_n 0, 1) := by decide +kernel
theorem dX3_told_31 : decode cX3_told 31 = .ok (.getfield 30, 3) := by decide +kernel
theorem dX3_told_34 : decode cX3_told 34 = .ok (.iload_n 1, 1) := by decide +kernel
theorem dX3_told_35 : decode cX3_told 35 = .ok (.bipush 16, 2) := by decide +kernel
theorem dX3_told_37 : decode cX3_told 37 = .ok (.imul, 1) := by decide +kernel
theorem dX3_told_38 : decode cX3_told 38 = .ok (.invokestatic 118, 3) := by decide +kernel
theorem dX3_told_41 : decode cX3_told 41 = .ok (.invokespecial 122, 3) := by decide +kernel
theorem dX3_told_44 : decode cX3_told 44 = .ok (.areturn, 1) := by decide +kernel
theorem dX3_putBoth_0 : decode cX3_putBoth 0 = .ok (.aload_n 0, 1) := by decide +kernel
theorem dX3_putBoth_1 : decode cX3_putBoth 1 = .ok (.getfield 24, 3) := by decide +kernel
theorem dX3_putBoth_4 : decode cX3_putBoth 4 = .ok (.iload_n 1, 1) := by decide +kernel
theorem dX3_putBoth_5 : decode cX3_putBoth 5 = .ok (.lload_n 2, 1) := by decide +kernel
theorem dX3_putBoth_6 : decode cX3_putBoth 6 = .ok (.lastore, 1) := by decide +kernel
theorem dX3_putBoth_7 : decode cX3_putBoth 7 = .ok (.aload_n 0, 1) := by decide +kernel
theorem dX3_putBoth_8 : decode cX3_putBoth 8 = .ok (.getfield 24, 3) := by decide +kernel
theorem dX3_putBoth_11 : decode cX3_putBoth 11 = .ok (.aload_n 0, 1) := by decide +kernel
theorem dX3_putBoth_12 : decode cX3_putBoth 12 = .ok (.getfield 34, 3) := by decide +kernel
theorem dX3_putBoth_15 : decode cX3_putBoth 15 = .ok (.iload_n 1, 1) := by decide +kernel
theorem dX3_putBoth_16 : decode cX3_putBoth 16 = .ok (.isub, 1) := by decide +kernel
theorem dX3_putBoth_17 : decode cX3_putBoth 17 = .ok (.lload_n 2, 1) := by decide +kernel
theorem dX3_putBoth_18 : decode cX3_putBoth 18 = .ok (.lastore, 1) := by decide +kernel
theorem dX3_putBoth_19 : decode cX3_putBoth 19 = .ok (.return_, 1) := by decide +kernel
theorem dX4_init_0 : decode cX4_init 0 = .ok (.aload_n 0, 1) := by decide +kernel
theorem dX4_init_1 : decode cX4_init 1 = .ok (.invokespecial 3, 3) := by decide +kernel
theorem dX4_init_4 : decode cX4_init 4 = .ok (.aload_n 0, 1) := by decide +kernel
theorem dX4_init_5 : decode cX4_init 5 = .ok (.bipush 7, 2) := by decide +kernel
theorem dX4_init_7 : decode cX4_init 7 = .ok (.bipush 13, 2) := by decide +kernel
theorem dX4_init_9 : decode cX4_init 9 = .ok (.multianewarray 9 2, 4) := by decide +kernel
theorem dX4_init_13 : decode cX4_init 13 = .ok (.putfield 11, 3) := by decide +kernel
theorem dX4_init_16 : decode cX4_init 16 = .ok (.aload_n 0, 1) := by decide +kernel
theorem dX4_init_17 : decode cX4_init 17 = .ok (.iconst 0, 1) := by decide +kernel
theorem dX4_init_18 : decode cX4_init 18 = .ok (.putfield 16, 3) := by decide +kernel
theorem dX4_init_21 : decode cX4_init 21 = .ok (.aload_n 0, 1) := by decide +kernel
theorem dX4_init_22 : decode cX4_init 22 = .ok (.iconst 0, 1) := by decide +kernel
theorem dX4_init_23 : decode cX4_init 23 = .ok (.putfield 20, 3) := by decide +kernel
theorem dX4_init_26 : decode cX4_init 26 = .ok (.return_, 1) := by decide +kernel
theorem dX4_climb_0 : decode cX4_climb 0 = .ok (.aload_n 1, 1) := by decide +kernel
theorem dX4_climb_1 : decode cX4_climb 1 = .ok (.aload_n 0, 1) := by decide +kernel
theorem dX4_climb_2 : decode cX4_climb 2 = .ok (.getfield 11, 3) := by decide +kernel
theorem dX4_climb_5 : decode cX4_climb 5 = .ok (.iconst 0, 1) := by decide +kernel
theorem dX4_climb_6 : decode cX4_climb 6 = .ok (.aaload, 1) := by decide +kernel
theorem dX4_climb_7 : decode cX4_climb 7 = .ok (.invokevirtual 23, 3) := by decide +kernel
theorem dX4_climb_10 : decode cX4_climb 10 = .ok (.aload_n 0, 1) := by decide +kernel
theorem dX4_climb_11 : decode cX4_climb 11 = .ok (.aload_n 1, 1) := by decide +kernel
theorem dX4_climb_12 : decode cX4_climb 12 = .ok (.getfield 29, 3) := by decide +kernel
theorem dX4_climb_15 : decode cX4_climb 15 = .ok (.putfield 16, 3) := by decide +kernel
theorem dX4_climb_18 : decode cX4_climb 18 = .ok (.aload_n 0, 1) := by decide +kernel
theorem dX4_climb_19 : decode cX4_climb 19 = .ok (.iload_n 2, 1) := by decide +kernel
theorem dX4_climb_20 : decode cX4_climb 20 = .ok (.invokevirtual 30, 3) := by decide +kernel
theorem dX4_climb_23 : decode cX4_climb 23 = .ok (.ireturn, 1) := by decide +kernel
theorem dX4_climbRow_0 : decode cX4_climbRow 0 = .ok (.aload_n 0, 1) := by decide +kernel
theorem dX4_climbRow_1 : decode cX4_climbRow 1 = .ok (.iconst 0, 1) := by decide +kernel
theorem dX4_climbRow_2 : decode cX4_climbRow 2 = .ok (.iload_n 2, 1) := by decide +kernel
theorem dX4_climbRow_3 : decode cX4_climbRow 3 = .ok (.aload_n 1, 1) := by decide +kernel
theorem dX4_climbRow_4 : decode cX4_climbRow 4 = .ok (.arraylength, 1) := by decide +kernel
theorem dX4_climbRow_5 : decode cX4_climbRow 5 = .ok (.bipush 13, 2) := by decide +kernel
theorem dX4_climbRow_7 : decode cX4_climbRow 7 = .ok (.invokestatic 34, 3) := by decide +kernel
theorem dX4_climbRow_10 : decode cX4_climbRow 10 = .ok (.iconst 1, 1) := by decide +kernel
theorem dX4_climbRow_11 : decode cX4_climbRow 11 = .ok (.isub, 1) := by decide +kernel
theorem dX4_climbRow_12 : decode cX4_climbRow 12 = .ok (.invokestatic 34, 3) := by decide +kernel
theorem dX4_climbRow_15 : decode cX4_climbRow 15 = .ok (.invokestatic 40, 3) := by decide +kernel
theorem dX4_climbRow_18 : decode cX4_climbRow 18 = .ok (.putfield 16, 3) := by decide +kernel
theorem dX4_climbRow_21 : decode cX4_climbRow 21 = .ok (.aload_n 1, 1) := by decide +kernel
theorem dX4_climbRow_22 : decode cX4_climbRow 22 = .ok (.iconst 0, 1) := by decide +kernel
theorem dX4_climbRow_23 : decode cX4_climbRow 23 = .ok (.aload_n 0, 1) := by decide +kernel
theorem dX4_climbRow_24 : decode cX4_climbRow 24 = .ok (.getfield 11, 3) := by decide +kernel
theorem dX4_climbRow_27 : decode cX4_climbRow 27 = .ok (.iconst 0, 1) := by decide +kernel
theorem dX4_climbRow_28 : decode cX4_climbRow 28 = .ok (.aaload, 1) := by decide +kernel
theorem dX4_climbRow_29 : decode cX4_climbRow 29 = .ok (.iconst 0, 1) := by decide +kernel
theorem dX4_climbRow_30 : decode cX4_climbRow 30 = .ok (.aload_n 0, 1) := by decide +kernel
theorem dX4_climbRow_31 : decode cX4_climbRow 31 = .ok (.getfield 16, 3) := by decide +kernel
theorem dX4_climbRow_34 : decode cX4_climbRow 34 = .ok (.iconst 1, 1) := by decide +kernel
theorem dX4_climbRow_35 : decode cX4_climbRow 35 = .ok (.iadd, 1) := by decide +kernel
theorem dX4_climbRow_36 : decode cX4_climbRow 36 = .ok (.invokestatic 43, 3) := by decide +kernel
theorem dX4_climbRow_39 : decode cX4_climbRow 39 = .ok (.aload_n 0, 1) := by decide +kernel
theorem dX4_climbRow_40 : decode cX4_climbRow 40 = .ok (.iload_n 3, 1) := by decide +kernel
theorem dX4_climbRow_41 : decode cX4_climbRow 41 = .ok (.invokevirtual 30, 3) := by decide +kernel
theorem dX4_climbRow_44 : decode cX4_climbRow 44 = .ok (.ireturn, 1) := by decide +kernel
theorem dX4_climbFromFirst_0 : decode cX4_climbFromFirst 0 = .ok (.aload_n 0, 1) := by decide +kernel
theorem dX4_climbFromFirst_1 : decode cX4_climbFromFirst 1 = .ok (.iconst 0, 1) := by decide +kernel
theorem dX4_climbFromFirst_2 : decode cX4_climbFromFirst 2 = .ok (.putfield 20, 3) := by decide +kernel
theorem dX4_climbFromFirst_5 : decode cX4_climbFromFirst 5 = .ok (.aload_n 0, 1) := by decide +kernel
theorem dX4_climbFromFirst_6 : decode cX4_climbFromFirst 6 = .ok (.getfield 20, 3) := by decide +kernel
theorem dX4_climbFromFirst_9 : decode cX4_climbFromFirst 9 = .ok (.iload_n 1, 1) := by decide +kernel
theorem dX4_climbFromFirst_10 : decode cX4_climbFromFirst 10 = .ok (.if_icmp .ge 55, 3) := by decide +kernel
theorem dX4_climbFromFirst_13 : decode cX4_climbFromFirst 13 = .ok (.aload_n 0, 1) := by decide +kernel
theorem dX4_climbFromFirst_14 : decode cX4_climbFromFirst 14 = .ok (.getfield 20, 3) := by decide +kernel
theorem dX4_climbFromFirst_17 : decode cX4_climbFromFirst 17 = .ok (.bipush 6, 2) := by decide +kernel
theorem dX4_climbFromFirst_19 : decode cX4_climbFromFirst 19 = .ok (.if_icmp .ge 46, 3) := by decide +kernel
theorem dX4_climbFromFirst_22 : decode cX4_climbFromFirst 22 = .ok (.aload_n 0, 1) := by decide +kernel
theorem dX4_climbFromFirst_23 : decode cX4_climbFromFirst 23 = .ok (.getfield 11, 3) := by decide +kernel
theorem dX4_climbFromFirst_26 : decode cX4_climbFromFirst 26 = .ok (.aload_n 0, 1) := by decide +kernel
theorem dX4_climbFromFirst_27 : decode cX4_climbFromFirst 27 = .ok (.getfield 20, 3) := by decide +kernel
theorem dX4_climbFromFirst_30 : decode cX4_climbFromFirst 30 = .ok (.aaload, 1) := by decide +kernel
theorem dX4_climbFromFirst_31 : decode cX4_climbFromFirst 31 = .ok (.aload_n 0, 1) := by decide +kernel
theorem dX4_climbFromFirst_32 : decode cX4_climbFromFirst 32 = .ok (.getfield 16, 3) := by decide +kernel
theorem dX4_climbFromFirst_35 : decode cX4_climbFromFirst 35 = .ok (.aload_n 0, 1) := by decide +kernel
theorem dX4_climbFromFirst_36 : decode cX4_climbFromFirst 36 = .ok (.getfield 11, 3) := by decide +kernel
theorem dX4_climbFromFirst_39 : decode cX4_climbFromFirst 39 = .ok (.aload_n 0, 1) := by decide +kernel
theorem dX4_climbFromFirst_40 : decode cX4_climbFromFirst 40 = .ok (.getfield 20, 3) := by decide +kernel
theorem dX4_climbFromFirst_43 : decode cX4_climbFromFirst 43 = .ok (.iconst 1, 1) := by decide +kernel
theorem dX4_climbFromFirst_44 : decode cX4_climbFromFirst 44 = .ok (.iadd, 1) := by decide +kernel
theorem dX4_climbFromFirst_45 : decode cX4_climbFromFirst 45 = .ok (.aaload, 1) := by decide +kernel
theorem dX4_climbFromFirst_46 : decode cX4_climbFromFirst 46 = .ok (.invokestatic 49, 3) := by decide +kernel
theorem dX4_climbFromFirst_49 : decode cX4_climbFromFirst 49 = .ok (.ifCond .eq 16, 3) := by decide +kernel
theorem dX4_climbFromFirst_52 : decode cX4_climbFromFirst 52 = .ok (.aload_n 0, 1) := by decide +kernel
theorem dX4_climbFromFirst_53 : decode cX4_climbFromFirst 53 = .ok (.dup, 1) := by decide +kernel
theorem dX4_climbFromFirst_54 : decode cX4_climbFromFirst 54 = .ok (.getfield 20, 3) := by decide +kernel
theorem dX4_climbFromFirst_57 : decode cX4_climbFromFirst 57 = .ok (.iconst 1, 1) := by decide +kernel
theorem dX4_climbFromFirst_58 : decode cX4_climbFromFirst 58 = .ok (.iadd, 1) := by decide +kernel
theorem dX4_climbFromFirst_59 : decode cX4_climbFromFirst 59 = .ok (.putfield 20, 3) := by decide +kernel
theorem dX4_climbFromFirst_62 : decode cX4_climbFromFirst 62 = .ok (.goto (-57), 3) := by decide +kernel
theorem dX4_climbFromFirst_65 : decode cX4_climbFromFirst 65 = .ok (.aload_n 0, 1) := by decide +kernel
theorem dX4_climbFromFirst_66 : decode cX4_climbFromFirst 66 = .ok (.getfield 20, 3) := by decide +kernel
theorem dX4_climbFromFirst_69 : decode cX4_climbFromFirst 69 = .ok (.ireturn, 1) := by decide +kernel
theorem dX4_writesSquared_0 : decode cX4_writesSquared 0 = .ok (.iload_n 1, 1) := by decide +kernel
theorem dX4_writesSquared_1 : decode cX4_writesSquared 1 = .ok (.ifCond .lt 15, 3) := by decide +kernel
theorem dX4_writesSquared_4 : decode cX4_writesSquared 4 = .ok (.iload_n 1, 1) := by decide +kernel
theorem dX4_writesSquared_5 : decode cX4_writesSquared 5 = .ok (.aload_n 0, 1) := by decide +kernel
theorem dX4_writesSquared_6 : decode cX4_writesSquared 6 = .ok (.arraylength, 1) := by decide +kernel
theorem dX4_writesSquared_7 : decode cX4_writesSquared 7 = .ok (.if_icmp .ge 9, 3) := by decide +kernel
theorem dX4_writesSquared_10 : decode cX4_writesSquared 10 = .ok (.iload_n 1, 1) := by decide +kernel
theorem dX4_writesSquared_11 : decode cX4_writesSquared 11 = .ok (.aload_n 2, 1) := by decide +kernel
theorem dX4_writesSquared_12 : decode cX4_writesSquared 12 = .ok (.arraylength, 1) := by decide +kernel
theorem dX4_writesSquared_13 : decode cX4_writesSquared 13 = .ok (.if_icmp .lt 5, 3) := by decide +kernel
theorem dX4_writesSquared_16 : decode cX4_writesSquared 16 = .ok (.iconst 0, 1) := by decide +kernel
theorem dX4_writesSquared_17 : decode cX4_writesSquared 17 = .ok (.ireturn, 1) := by decide +kernel
theorem dX4_writesSquared_18 : decode cX4_writesSquared 18 = .ok (.iconst 1, 1) := by decide +kernel
theorem dX4_writesSquared_19 : decode cX4_writesSquared 19 = .ok (.istore_n 3, 1) := by decide +kernel
theorem dX4_writesSquared_20 : decode cX4_writesSquared 20 = .ok (.iconst 0, 1) := by decide +kernel
theorem dX4_writesSquared_21 : decode cX4_writesSquared 21 = .ok (.istore 4, 2) := by decide +kernel
theorem dX4_writesSquared_23 : decode cX4_writesSquared 23 = .ok (.iload 4, 2) := by decide +kernel
theorem dX4_writesSquared_25 : decode cX4_writesSquared 25 = .ok (.iload_n 1, 1) := by decide +kernel
theorem dX4_writesSquared_26 : decode cX4_writesSquared 26 = .ok (.if_icmp .gt 41, 3) := by decide +kernel
theorem dX4_writesSquared_29 : decode cX4_writesSquared 29 = .ok (.iload_n 3, 1) := by decide +kernel
theorem dX4_writesSquared_30 : decode cX4_writesSquared 30 = .ok (.ifCond .eq 29, 3) := by decide +kernel
theorem dX4_writesSquared_33 : decode cX4_writesSquared 33 = .ok (.aload_n 0, 1) := by decide +kernel
theorem dX4_writesSquared_34 : decode cX4_writesSquared 34 = .ok (.iload 4, 2) := by decide +kernel
theorem dX4_writesSquared_36 : decode cX4_writesSquared 36 = .ok (.laload, 1) := by decide +kernel
theorem dX4_writesSquared_37 : decode cX4_writesSquared 37 = .ok (.ldc2_w 53, 3) := by decide +kernel
theorem dX4_writesSquared_40 : decode cX4_writesSquared 40 = .ok (.lcmp, 1) := by decide +kernel
theorem dX4_writesSquared_41 : decode cX4_writesSquared 41 = .ok (.ifCond .ge 18, 3) := by decide +kernel
theorem dX4_writesSquared_44 : decode cX4_writesSquared 44 = .ok (.aload_n 0, 1) := by decide +kernel
theorem dX4_writesSquared_45 : decode cX4_writesSquared 45 = .ok (.iload 4, 2) := by decide +kernel
theorem dX4_writesSquared_47 : decode cX4_writesSquared 47 = .ok (.laload, 1) := by decide +kernel
theorem dX4_writesSquared_48 : decode cX4_writesSquared 48 = .ok (.ldc2_w 55, 3) := by decide +kernel
theorem dX4_writesSquared_51 : decode cX4_writesSquared 51 = .ok (.lcmp, 1) := by decide +kernel
theorem dX4_writesSquared_52 : decode cX4_writesSquared 52 = .ok (.ifCond .le 7, 3) := by decide +kernel
theorem dX4_writesSquared_55 : decode cX4_writesSquared 55 = .ok (.iconst 1, 1) := by decide +kernel
theorem dX4_writesSquared_56 : decode cX4_writesSquared 56 = .ok (.goto 4, 3) := by decide +kernel
theorem dX4_writesSquared_59 : decode cX4_writesSquared 59 = .ok (.iconst 0, 1) := by decide +kernel
theorem dX4_writesSquared_60 : decode cX4_writesSquared 60 = .ok (.istore_n 3, 1) := by decide +kernel
theorem dX4_writesSquared_61 : decode cX4_writesSquared 61 = .ok (.iinc 4 1, 3) := by decide +kernel
theorem dX4_writesSquared_64 : decode cX4_writesSquared 64 = .ok (.goto (-41), 3) := by decide +kernel
theorem dX4_writesSquared_67 : decode cX4_writesSquared 67 = .ok (.iconst 0, 1) := by decide +kernel
theorem dX4_writesSquared_68 : decode cX4_writesSquared 68 = .ok (.istore 4, 2) := by decide +kernel
theorem dX4_writesSquared_70 : decode cX4_writesSquared 70 = .ok (.iload 4, 2) := by decide +kernel
theorem dX4_writesSquared_72 : decode cX4_writesSquared 72 = .ok (.iload_n 1, 1) := by decide +kernel
theorem dX4_writesSquared_73 : decode cX4_writesSquared 73 = .ok (.if_icmp .gt 40, 3) := by decide +kernel
theorem dX4_writesSquared_76 : decode cX4_writesSquared 76 = .ok (.iload_n 3, 1) := by decide +kernel
theorem dX4_writesSquared_77 : decode cX4_writesSquared 77 = .ok (.ifCond .eq 17, 3) := by decide +kernel
theorem dX4_writesSquared_80 : decode cX4_writesSquared 80 = .ok (.aload_n 2, 1) := by decide +kernel
theorem dX4_writesSquared_81 : decode cX4_writesSquared 81 = .ok (.iload 4, 2) := by decide +kernel
theorem dX4_writesSquared_83 : decode cX4_writesSquared 83 = .ok (.aload_n 0, 1) := by decide +kernel
theorem dX4_writesSquared_84 : decode cX4_writesSquared 84 = .ok (.iload_n 1, 1) := by decide +kernel
theorem dX4_writesSquared_85 : decode cX4_writesSquared 85 = .ok (.iload 4, 2) := by decide +kernel
theorem dX4_writesSquared_87 : decode cX4_writesSquared 87 = .ok (.invokestatic 57, 3) := by decide +kernel
theorem dX4_writesSquared_90 : decode cX4_writesSquared 90 = .ok (.lastore, 1) := by decide +kernel
theorem dX4_writesSquared_91 : decode cX4_writesSquared 91 = .ok (.goto 16, 3) := by decide +kernel
theorem dX4_writesSquared_94 : decode cX4_writesSquared 94 = .ok (.aload_n 0, 1) := by decide +kernel
theorem dX4_writesSquared_95 : decode cX4_writesSquared 95 = .ok (.iload_n 1, 1) := by decide +kernel
theorem dX4_writesSquared_96 : decode cX4_writesSquared 96 = .ok (.iload 4, 2) := by decide +kernel
theorem dX4_writesSquared_98 : decode cX4_writesSquared 98 = .ok (.aload_n 2, 1) := by decide +kernel
theorem dX4_writesSquared_99 : decode cX4_writesSquared 99 = .ok (.invokestatic 61, 3) := by decide +kernel
theorem dX4_writesSquared_102 : decode cX4_writesSquared 102 = .ok (.ifCond .ne 5, 3) := by decide +kernel
theorem dX4_writesSquared_105 : decode cX4_writesSquared 105 = .ok (.iconst 0, 1) := by decide +kernel
theorem dX4_writesSquared_106 : decode cX4_writesSquared 106 = .ok (.ireturn, 1) := by decide +kernel
theorem dX4_writesSquared_107 : decode cX4_writesSquared 107 = .ok (.iinc 4 1, 3) := by decide +kernel
theorem dX4_writesSquared_110 : decode cX4_writesSquared 110 = .ok (.goto (-40), 3) := by decide +kernel
theorem dX4_writesSquared_113 : decode cX4_writesSquared 113 = .ok (.iconst 1, 1) := by decide +kernel
theorem dX4_writesSquared_114 : decode cX4_writesSquared 114 = .ok (.ireturn, 1) := by decide +kernel
theorem dX4_easySum_0 : decode cX4_easySum 0 = .ok (.lconst 0, 1) := by decide +kernel
theorem dX4_easySum_1 : decode cX4_easySum 1 = .ok (.lstore_n 3, 1) := by decide +kernel
theorem dX4_easySum_2 : decode cX4_easySum 2 = .ok (.iload_n 2, 1) := by decide +kernel
theorem dX4_easySum_3 : decode cX4_easySum 3 = .ok (.iload_n 1, 1) := by decide +kernel
theorem dX4_easySum_4 : decode cX4_easySum 4 = .ok (.iload_n 2, 1) := by decide +kernel
theorem dX4_easySum_5 : decode cX4_easySum 5 = .ok (.isub, 1) := by decide +kernel
theorem dX4_easySum_6 : decode cX4_easySum 6 = .ok (.invokestatic 34, 3) := by decide +kernel
theorem dX4_easySum_9 : decode cX4_easySum 9 = .ok (.istore 5, 2) := by decide +kernel
theorem dX4_easySum_11 : decode cX4_easySum 11 = .ok (.iload 5, 2) := by decide +kernel
theorem dX4_easySum_13 : decode cX4_easySum 13 = .ok (.ifCond .le 25, 3) := by decide +kernel
theorem dX4_easySum_16 : decode cX4_easySum 16 = .ok (.aload_n 0, 1) := by decide +kernel
theorem dX4_easySum_17 : decode cX4_easySum 17 = .ok (.iload_n 2, 1) := by decide +kernel
theorem dX4_easySum_18 : decode cX4_easySum 18 = .ok (.iload 5, 2) := by decide +kernel
theorem dX4_easySum_20 : decode cX4_easySum 20 = .ok (.isub, 1) := by decide +kernel
theorem dX4_easySum_21 : decode cX4_easySum 21 = .ok (.laload, 1) := by decide +kernel
theorem dX4_easySum_22 : decode cX4_easySum 22 = .ok (.aload_n 0, 1) := by decide +kernel
theorem dX4_easySum_23 : decode cX4_easySum 23 = .ok (.iload_n 2, 1) := by decide +kernel
theorem dX4_easySum_24 : decode cX4_easySum 24 = .ok (.iload 5, 2) := by decide +kernel
theorem dX4_easySum_26 : decode cX4_easySum 26 = .ok (.iadd, 1) := by decide +kernel
theorem dX4_easySum_27 : decode cX4_easySum 27 = .ok (.laload, 1) := by decide +kernel
theorem dX4_easySum_28 : decode cX4_easySum 28 = .ok (.lmul, 1) := by decide +kernel
theorem dX4_easySum_29 : decode cX4_easySum 29 = .ok (.lload_n 3, 1) := by decide +kernel
theorem dX4_easySum_30 : decode cX4_easySum 30 = .ok (.lsub, 1) := by decide +kernel
theorem dX4_easySum_31 : decode cX4_easySum 31 = .ok (.lstore_n 3, 1) := by decide +kernel
theorem dX4_easySum_32 : decode cX4_easySum 32 = .ok (.iinc 5 (-1), 3) := by decide +kernel
theorem dX4_easySum_35 : decode cX4_easySum 35 = .ok (.goto (-24), 3) := by decide +kernel
theorem dX4_easySum_38 : decode cX4_easySum 38 = .ok (.aload_n 0, 1) := by decide +kernel
theorem dX4_easySum_39 : decode cX4_easySum 39 = .ok (.iload_n 2, 1) := by decide +kernel
theorem dX4_easySum_40 : decode cX4_easySum 40 = .ok (.laload, 1) := by decide +kernel
theorem dX4_easySum_41 : decode cX4_easySum 41 = .ok (.aload_n 0, 1) := by decide +kernel
theorem dX4_easySum_42 : decode cX4_easySum 42 = .ok (.iload_n 2, 1) := by decide +kernel
theorem dX4_easySum_43 : decode cX4_easySum 43 = .ok (.laload, 1) := by decide +kernel
theorem dX4_easySum_44 : decode cX4_easySum 44 = .ok (.lmul, 1) := by decide +kernel
theorem dX4_easySum_45 : decode cX4_easySum 45 = .ok (.ldc2_w 65, 3) := by decide +kernel
theorem dX4_easySum_48 : decode cX4_easySum 48 = .ok (.lload_n 3, 1) := by decide +kernel
theorem dX4_easySum_49 : decode cX4_easySum 49 = .ok (.lmul, 1) := by decide +kernel
theorem dX4_easySum_50 : decode cX4_easySum 50 = .ok (.lsub, 1) := by decide +kernel
theorem dX4_easySum_51 : decode cX4_easySum 51 = .ok (.lstore 5, 2) := by decide +kernel
theorem dX4_easySum_53 : decode cX4_easySum 53 = .ok (.iload_n 1, 1) := by decide +kernel
theorem dX4_easySum_54 : decode cX4_easySum 54 = .ok (.iload_n 2, 1) := by decide +kernel
theorem dX4_easySum_55 : decode cX4_easySum 55 = .ok (.iadd, 1) := by decide +kernel
theorem dX4_easySum_56 : decode cX4_easySum 56 = .ok (.iconst 2, 1) := by decide +kernel
theorem dX4_easySum_57 : decode cX4_easySum 57 = .ok (.irem, 1) := by decide +kernel
theorem dX4_easySum_58 : decode cX4_easySum 58 = .ok (.ifCond .ne 8, 3) := by decide +kernel
theorem dX4_easySum_61 : decode cX4_easySum 61 = .ok (.lload 5, 2) := by decide +kernel
theorem dX4_easySum_63 : decode cX4_easySum 63 = .ok (.goto 6, 3) := by decide +kernel
theorem dX4_easySum_66 : decode cX4_easySum 66 = .ok (.lload 5, 2) := by decide +kernel
theorem dX4_easySum_68 : decode cX4_easySum 68 = .ok (.lneg, 1) := by decide +kernel
theorem dX4_easySum_69 : decode cX4_easySum 69 = .ok (.lreturn, 1) := by decide +kernel
theorem dX4_writesCarefulSum_0 : decode cX4_writesCarefulSum 0 = .ok (.lconst 0, 1) := by decide +kernel
theorem dX4_writesCarefulSum_1 : decode cX4_writesCarefulSum 1 = .ok (.lstore 4, 2) := by decide +kernel
theorem dX4_writesCarefulSum_3 : decode cX4_writesCarefulSum 3 = .ok (.iload_n 1, 1) := by decide +kernel
theorem dX4_writesCarefulSum_4 : decode cX4_writesCarefulSum 4 = .ok (.iconst 2, 1) := by decide +kernel
theorem dX4_writesCarefulSum_5 : decode cX4_writesCarefulSum 5 = .ok (.iload_n 2, 1) := by decide +kernel
theorem dX4_writesCarefulSum_6 : decode cX4_writesCarefulSum 6 = .ok (.imul, 1) := by decide +kernel
theorem dX4_writesCarefulSum_7 : decode cX4_writesCarefulSum 7 = .ok (.invokestatic 34, 3) := by decide +kernel
theorem dX4_writesCarefulSum_10 : decode cX4_writesCarefulSum 10 = .ok (.istore 6, 2) := by decide +kernel
theorem dX4_writesCarefulSum_12 : decode cX4_writesCarefulSum 12 = .ok (.iconst 0, 1) := by decide +kernel
theorem dX4_writesCarefulSum_13 : decode cX4_writesCarefulSum 13 = .ok (.iconst 2, 1) := by decide +kernel
theorem dX4_writesCarefulSum_14 : decode cX4_writesCarefulSum 14 = .ok (.iload_n 2, 1) := by decide +kernel
theorem dX4_writesCarefulSum_15 : decode cX4_writesCarefulSum 15 = .ok (.imul, 1) := by decide +kernel
theorem dX4_writesCarefulSum_16 : decode cX4_writesCarefulSum 16 = .ok (.iload_n 1, 1) := by decide +kernel
theorem dX4_writesCarefulSum_17 : decode cX4_writesCarefulSum 17 = .ok (.isub, 1) := by decide +kernel
theorem dX4_writesCarefulSum_18 : decode cX4_writesCarefulSum 18 = .ok (.invokestatic 40, 3) := by decide +kernel
theorem dX4_writesCarefulSum_21 : decode cX4_writesCarefulSum 21 = .ok (.istore 7, 2) := by decide +kernel
theorem dX4_writesCarefulSum_23 : decode cX4_writesCarefulSum 23 = .ok (.iload 7, 2) := by decide +kernel
theorem dX4_writesCarefulSum_25 : decode cX4_writesCarefulSum 25 = .ok (.iload 6, 2) := by decide +kernel
theorem dX4_writesCarefulSum_27 : decode cX4_writesCarefulSum 27 = .ok (.if_icmp .gt 108, 3) := by decide +kernel
theorem dX4_writesCarefulSum_30 : decode cX4_writesCarefulSum 30 = .ok (.iconst 2, 1) := by decide +kernel
theorem dX4_writesCarefulSum_31 : decode cX4_writesCarefulSum 31 = .ok (.iload_n 2, 1) := by decide +kernel
theorem dX4_writesCarefulSum_32 : decode cX4_writesCarefulSum 32 = .ok (.imul, 1) := by decide +kernel
theorem dX4_writesCarefulSum_33 : decode cX4_writesCarefulSum 33 = .ok (.iload 7, 2) := by decide +kernel
theorem dX4_writesCarefulSum_35 : decode cX4_writesCarefulSum 35 = .ok (.isub, 1) := by decide +kernel
theorem dX4_writesCarefulSum_36 : decode cX4_writesCarefulSum 36 = .ok (.istore 8, 2) := by decide +kernel
theorem dX4_writesCarefulSum_38 : decode cX4_writesCarefulSum 38 = .ok (.aload_n 0, 1) := by decide +kernel
theorem dX4_writesCarefulSum_39 : decode cX4_writesCarefulSum 39 = .ok (.iload 7, 2) := by decide +kernel
theorem dX4_writesCarefulSum_41 : decode cX4_writesCarefulSum 41 = .ok (.laload, 1) := by decide +kernel
theorem dX4_writesCarefulSum_42 : decode cX4_writesCarefulSum 42 = .ok (.aload_n 0, 1) := by decide +kernel
theorem dX4_writesCarefulSum_43 : decode cX4_writesCarefulSum 43 = .ok (.iload 8, 2) := by decide +kernel
theorem dX4_writesCarefulSum_45 : decode cX4_writesCarefulSum 45 = .ok (.laload, 1) := by decide +kernel
theorem dX4_writesCarefulSum_46 : decode cX4_writesCarefulSum 46 = .ok (.invokestatic 67, 3) := by decide +kernel
theorem dX4_writesCarefulSum_49 : decode cX4_writesCarefulSum 49 = .ok (.ifCond .ne 5, 3) := by decide +kernel
theorem dX4_writesCarefulSum_52 : decode cX4_writesCarefulSum 52 = .ok (.iconst 0, 1) := by decide +kernel
theorem dX4_writesCarefulSum_53 : decode cX4_writesCarefulSum 53 = .ok (.ireturn, 1) := by decide +kernel
theorem dX4_writesCarefulSum_54 : decode cX4_writesCarefulSum 54 = .ok (.aload_n 0, 1) := by decide +kernel
theorem dX4_writesCarefulSum_55 : decode cX4_writesCarefulSum 55 = .ok (.iload 7, 2) := by decide +kernel
theorem dX4_writesCarefulSum_57 : decode cX4_writesCarefulSum 57 = .ok (.laload, 1) := by decide +kernel
theorem dX4_writesCarefulSum_58 : decode cX4_writesCarefulSum 58 = .ok (.aload_n 0, 1) := by decide +kernel
theorem dX4_writesCarefulSum_59 : decode cX4_writesCarefulSum 59 = .ok (.iload 8, 2) := by decide +kernel
theorem dX4_writesCarefulSum_61 : decode cX4_writesCarefulSum 61 = .ok (.laload, 1) := by decide +kernel
theorem dX4_writesCarefulSum_62 : decode cX4_writesCarefulSum 62 = .ok (.lmul, 1) := by decide +kernel
theorem dX4_writesCarefulSum_63 : decode cX4_writesCarefulSum 63 = .ok (.lstore 9, 2) := by decide +kernel
theorem dX4_writesCarefulSum_65 : decode cX4_writesCarefulSum 65 = .ok (.iload 8, 2) := by decide +kernel
theorem dX4_writesCarefulSum_67 : decode cX4_writesCarefulSum 67 = .ok (.iload_n 1, 1) := by decide +kernel
theorem dX4_writesCarefulSum_68 : decode cX4_writesCarefulSum 68 = .ok (.iadd, 1) := by decide +kernel
theorem dX4_writesCarefulSum_69 : decode cX4_writesCarefulSum 69 = .ok (.iconst 2, 1) := by decide +kernel
theorem dX4_writesCarefulSum_70 : decode cX4_writesCarefulSum 70 = .ok (.irem, 1) := by decide +kernel
theorem dX4_writesCarefulSum_71 : decode cX4_writesCarefulSum 71 = .ok (.ifCond .eq 7, 3) := by decide +kernel
theorem dX4_writesCarefulSum_74 : decode cX4_writesCarefulSum 74 = .ok (.iconst 1, 1) := by decide +kernel
theorem dX4_writesCarefulSum_75 : decode cX4_writesCarefulSum 75 = .ok (.goto 4, 3) := by decide +kernel
theorem dX4_writesCarefulSum_78 : decode cX4_writesCarefulSum 78 = .ok (.iconst 0, 1) := by decide +kernel
theorem dX4_writesCarefulSum_79 : decode cX4_writesCarefulSum 79 = .ok (.istore 11, 2) := by decide +kernel
theorem dX4_writesCarefulSum_81 : decode cX4_writesCarefulSum 81 = .ok (.iload 11, 2) := by decide +kernel
theorem dX4_writesCarefulSum_83 : decode cX4_writesCarefulSum 83 = .ok (.ifCond .eq 16, 3) := by decide +kernel
theorem dX4_writesCarefulSum_86 : decode cX4_writesCarefulSum 86 = .ok (.lload 4, 2) := by decide +kernel
theorem dX4_writesCarefulSum_88 : decode cX4_writesCarefulSum 88 = .ok (.lload 9, 2) := by decide +kernel
theorem dX4_writesCarefulSum_90 : decode cX4_writesCarefulSum 90 = .ok (.invokestatic 71, 3) := by decide +kernel
theorem dX4_writesCarefulSum_93 : decode cX4_writesCarefulSum 93 = .ok (.ifCond .ne 18, 3) := by decide +kernel
theorem dX4_writesCarefulSum_96 : decode cX4_writesCarefulSum 96 = .ok (.goto 13, 3) := by decide +kernel
theorem dX4_writesCarefulSum_99 : decode cX4_writesCarefulSum 99 = .ok (.lload 4, 2) := by decide +kernel
theorem dX4_writesCarefulSum_101 : decode cX4_writesCarefulSum 101 = .ok (.lload 9, 2) := by decide +kernel
theorem dX4_writesCarefulSum_103 : decode cX4_writesCarefulSum 103 = .ok (.invokestatic 74, 3) := by decide +kernel
theorem dX4_writesCarefulSum_106 : decode cX4_writesCarefulSum 106 = .ok (.ifCond .ne 5, 3) := by decide +kernel
theorem dX4_writesCarefulSum_109 : decode cX4_writesCarefulSum 109 = .ok (.iconst 0, 1) := by decide +kernel
theorem dX4_writesCarefulSum_110 : decode cX4_writesCarefulSum 110 = .ok (.ireturn, 1) := by decide +kernel
theorem dX4_writesCarefulSum_111 : decode cX4_writesCarefulSum 111 = .ok (.lload 4, 2) := by decide +kernel
theorem dX4_writesCarefulSum_113 : decode cX4_writesCarefulSum 113 = .ok (.iload 11, 2) := by decide +kernel
theorem dX4_writesCarefulSum_115 : decode cX4_writesCarefulSum 115 = .ok (.ifCond .eq 9, 3) := by decide +kernel
theorem dX4_writesCarefulSum_118 : decode cX4_writesCarefulSum 118 = .ok (.lload 9, 2) := by decide +kernel
theorem dX4_writesCarefulSum_120 : decode cX4_writesCarefulSum 120 = .ok (.lneg, 1) := by decide +kernel
theorem dX4_writesCarefulSum_121 : decode cX4_writesCarefulSum 121 = .ok (.goto 5, 3) := by decide +kernel
theorem dX4_writesCarefulSum_124 : decode cX4_writesCarefulSum 124 = .ok (.lload 9, 2) := by decide +kernel
theorem dX4_writesCarefulSum_126 : decode cX4_writesCarefulSum 126 = .ok (.ladd, 1) := by decide +kernel
theorem dX4_writesCarefulSum_127 : decode cX4_writesCarefulSum 127 = .ok (.lstore 4, 2) := by decide +kernel
theorem dX4_writesCarefulSum_129 : decode cX4_writesCarefulSum 129 = .ok (.iinc 7 1, 3) := by decide +kernel
theorem dX4_writesCarefulSum_132 : decode cX4_writesCarefulSum 132 = .ok (.goto (-109), 3) := by decide +kernel
theorem dX4_writesCarefulSum_135 : decode cX4_writesCarefulSum 135 = .ok (.aload_n 3, 1) := by decide +kernel
theorem dX4_writesCarefulSum_136 : decode cX4_writesCarefulSum 136 = .ok (.iload_n 2, 1) := by decide +kernel
theorem dX4_writesCarefulSum_137 : decode cX4_writesCarefulSum 137 = .ok (.lload 4, 2) := by decide +kernel
theorem dX4_writesCarefulSum_139 : decode cX4_writesCarefulSum 139 = .ok (.lastore, 1) := by decide +kernel
theorem dX4_writesCarefulSum_140 : decode cX4_writesCarefulSum 140 = .ok (.iconst 1, 1) := by decide +kernel
theorem dX4_writesCarefulSum_141 : decode cX4_writesCarefulSum 141 = .ok (.ireturn, 1) := by decide +kernel
theorem dX4_productFits_0 : decode cX4_productFits 0 = .ok (.lload_n 0, 1) := by decide +kernel
theorem dX4_productFits_1 : decode cX4_productFits 1 = .ok (.lconst 0, 1) := by decide +kernel
theorem dX4_productFits_2 : decode cX4_productFits 2 = .ok (.lcmp, 1) := by decide +kernel
theorem dX4_productFits_3 : decode cX4_productFits 3 = .ok (.ifCond .eq 9, 3) := by decide +kernel
theorem dX4_productFits_6 : decode cX4_productFits 6 = .ok (.lload_n 2, 1) := by decide +kernel
theorem dX4_productFits_7 : decode cX4_productFits 7 = .ok (.lconst 0, 1) := by decide +kernel
theorem dX4_productFits_8 : decode cX4_productFits 8 = .ok (.lcmp, 1) := by decide +kernel
theorem dX4_productFits_9 : decode cX4_productFits 9 = .ok (.ifCond .ne 5, 3) := by decide +kernel
theorem dX4_productFits_12 : decode cX4_productFits 12 = .ok (.iconst 1, 1) := by decide +kernel
theorem dX4_productFits_13 : decode cX4_productFits 13 = .ok (.ireturn, 1) := by decide +kernel
theorem dX4_productFits_14 : decode cX4_productFits 14 = .ok (.lload_n 0, 1) := by decide +kernel
theorem dX4_productFits_15 : decode cX4_productFits 15 = .ok (.ldc2_w 77, 3) := by decide +kernel
theorem dX4_productFits_18 : decode cX4_productFits 18 = .ok (.lcmp, 1) := by decide +kernel
theorem dX4_productFits_19 : decode cX4_productFits 19 = .ok (.ifCond .ne 17, 3) := by decide +kernel
theorem dX4_productFits_22 : decode cX4_productFits 22 = .ok (.lload_n 2, 1) := by decide +kernel
theorem dX4_productFits_23 : decode cX4_productFits 23 = .ok (.ldc2_w 81, 3) := by decide +kernel
theorem dX4_productFits_26 : decode cX4_productFits 26 = .ok (.lcmp, 1) := by decide +kernel
theorem dX4_productFits_27 : decode cX4_productFits 27 = .ok (.ifCond .eq 7, 3) := by decide +kernel
theorem dX4_productFits_30 : decode cX4_productFits 30 = .ok (.iconst 1, 1) := by decide +kernel
theorem dX4_productFits_31 : decode cX4_productFits 31 = .ok (.goto 4, 3) := by decide +kernel
theorem dX4_productFits_34 : decode cX4_productFits 34 = .ok (.iconst 0, 1) := by decide +kernel
theorem dX4_productFits_35 : decode cX4_productFits 35 = .ok (.ireturn, 1) := by decide +kernel
theorem dX4_productFits_36 : decode cX4_productFits 36 = .ok (.lload_n 0, 1) := by decide +kernel
theorem dX4_productFits_37 : decode cX4_productFits 37 = .ok (.lload_n 2, 1) := by decide +kernel
theorem dX4_productFits_38 : decode cX4_productFits 38 = .ok (.lmul, 1) := by decide +kernel
theorem dX4_productFits_39 : decode cX4_productFits 39 = .ok (.lload_n 0, 1) := by decide +kernel
theorem dX4_productFits_40 : decode cX4_productFits 40 = .ok (.ldiv, 1) := by decide +kernel
theorem dX4_productFits_41 : decode cX4_productFits 41 = .ok (.lload_n 2, 1) := by decide +kernel
theorem dX4_productFits_42 : decode cX4_productFits 42 = .ok (.lcmp, 1) := by decide +kernel
theorem dX4_productFits_43 : decode cX4_productFits 43 = .ok (.ifCond .ne 7, 3) := by decide +kernel
theorem dX4_productFits_46 : decode cX4_productFits 46 = .ok (.iconst 1, 1) := by decide +kernel
theorem dX4_productFits_47 : decode cX4_productFits 47 = .ok (.goto 4, 3) := by decide +kernel
theorem dX4_productFits_50 : decode cX4_productFits 50 = .ok (.iconst 0, 1) := by decide +kernel
theorem dX4_productFits_51 : decode cX4_productFits 51 = .ok (.ireturn, 1) := by decide +kernel
theorem dX4_sumFits_0 : decode cX4_sumFits 0 = .ok (.lload_n 0, 1) := by decide +kernel
theorem dX4_sumFits_1 : decode cX4_sumFits 1 = .ok (.lload_n 2, 1) := by decide +kernel
theorem dX4_sumFits_2 : decode cX4_sumFits 2 = .ok (.ladd, 1) := by decide +kernel
theorem dX4_sumFits_3 : decode cX4_sumFits 3 = .ok (.lstore 4, 2) := by decide +kernel
theorem dX4_sumFits_5 : decode cX4_sumFits 5 = .ok (.lload_n 0, 1) := by decide +kernel
theorem dX4_sumFits_6 : decode cX4_sumFits 6 = .ok (.lload 4, 2) := by decide +kernel
theorem dX4_sumFits_8 : decode cX4_sumFits 8 = .ok (.lxor, 1) := by decide +kernel
theorem dX4_sumFits_9 : decode cX4_sumFits 9 = .ok (.lload_n 2, 1) := by decide +kernel
theorem dX4_sumFits_10 : decode cX4_sumFits 10 = .ok (.lload 4, 2) := by decide +kernel
theorem dX4_sumFits_12 : decode cX4_sumFits 12 = .ok (.lxor, 1) := by decide +kernel
theorem dX4_sumFits_13 : decode cX4_sumFits 13 = .ok (.land, 1) := by decide +kernel
theorem dX4_sumFits_14 : decode cX4_sumFits 14 = .ok (.lconst 0, 1) := by decide +kernel
theorem dX4_sumFits_15 : decode cX4_sumFits 15 = .ok (.lcmp, 1) := by decide +kernel
theorem dX4_sumFits_16 : decode cX4_sumFits 16 = .ok (.ifCond .lt 7, 3) := by decide +kernel
theorem dX4_sumFits_19 : decode cX4_sumFits 19 = .ok (.iconst 1, 1) := by decide +kernel
theorem dX4_sumFits_20 : decode cX4_sumFits 20 = .ok (.goto 4, 3) := by decide +kernel
theorem dX4_sumFits_23 : decode cX4_sumFits 23 = .ok (.iconst 0, 1) := by decide +kernel
theorem dX4_sumFits_24 : decode cX4_sumFits 24 = .ok (.ireturn, 1) := by decide +kernel
theorem dX4_differenceFits_0 : decode cX4_differenceFits 0 = .ok (.lload_n 0, 1) := by decide +kernel
theorem dX4_differenceFits_1 : decode cX4_differenceFits 1 = .ok (.lload_n 2, 1) := by decide +kernel
theorem dX4_differenceFits_2 : decode cX4_differenceFits 2 = .ok (.lsub, 1) := by decide +kernel
theorem dX4_differenceFits_3 : decode cX4_differenceFits 3 = .ok (.lstore 4, 2) := by decide +kernel
theorem dX4_differenceFits_5 : decode cX4_differenceFits 5 = .ok (.lload_n 0, 1) := by decide +kernel
theorem dX4_differenceFits_6 : decode cX4_differenceFits 6 = .ok (.lload_n 2, 1) := by decide +kernel
theorem dX4_differenceFits_7 : decode cX4_differenceFits 7 = .ok (.lxor, 1) := by decide +kernel
theorem dX4_differenceFits_8 : decode cX4_differenceFits 8 = .ok (.lload_n 0, 1) := by decide +kernel
theorem dX4_differenceFits_9 : decode cX4_differenceFits 9 = .ok (.lload 4, 2) := by decide +kernel
theorem dX4_differenceFits_11 : decode cX4_differenceFits 11 = .ok (.lxor, 1) := by decide +kernel
theorem dX4_differenceFits_12 : decode cX4_differenceFits 12 = .ok (.land, 1) := by decide +kernel
theorem dX4_differenceFits_13 : decode cX4_differenceFits 13 = .ok (.lconst 0, 1) := by decide +kernel
theorem dX4_differenceFits_14 : decode cX4_differenceFits 14 = .ok (.lcmp, 1) := by decide +kernel
theorem dX4_differenceFits_15 : decode cX4_differenceFits 15 = .ok (.ifCond .lt 7, 3) := by decide +kernel
theorem dX4_differenceFits_18 : decode cX4_differenceFits 18 = .ok (.iconst 1, 1) := by decide +kernel
theorem dX4_differenceFits_19 : decode cX4_differenceFits 19 = .ok (.goto 4, 3) := by decide +kernel
theorem dX4_differenceFits_22 : decode cX4_differenceFits 22 = .ok (.iconst 0, 1) := by decide +kernel
theorem dX4_differenceFits_23 : decode cX4_differenceFits 23 = .ok (.ireturn, 1) := by decide +kernel
theorem dX5_init_0 : decode cX5_init 0 = .ok (.aload_n 0, 1) := by decide +kernel
theorem dX5_init_1 : decode cX5_init 1 = .ok (.invokespecial 3, 3) := by decide +kernel
theorem dX5_init_4 : decode cX5_init 4 = .ok (.aload_n 0, 1) := by decide +kernel
theorem dX5_init_5 : decode cX5_init 5 = .ok (.bipush 8, 2) := by decide +kernel
theorem dX5_init_7 : decode cX5_init 7 = .ok (.anewarray 11, 3) := by decide +kernel
theorem dX5_init_10 : decode cX5_init 10 = .ok (.putfield 13, 3) := by decide +kernel
theorem dX5_init_13 : decode cX5_init 13 = .ok (.aload_n 0, 1) := by decide +kernel
theorem dX5_init_14 : decode cX5_init 14 = .ok (.bipush 8, 2) := by decide +kernel
theorem dX5_init_16 : decode cX5_init 16 = .ok (.newarray .int, 2) := by decide +kernel
theorem dX5_init_18 : decode cX5_init 18 = .ok (.putfield 17, 3) := by decide +kernel
theorem dX5_init_21 : decode cX5_init 21 = .ok (.aload_n 0, 1) := by decide +kernel
theorem dX5_init_22 : decode cX5_init 22 = .ok (.iconst 0, 1) := by decide +kernel
theorem dX5_init_23 : decode cX5_init 23 = .ok (.putfield 21, 3) := by decide +kernel
theorem dX5_init_26 : decode cX5_init 26 = .ok (.return_, 1) := by decide +kernel
theorem dX5_keep_0 : decode cX5_keep 0 = .ok (.aload_n 0, 1) := by decide +kernel
theorem dX5_keep_1 : decode cX5_keep 1 = .ok (.getfield 21, 3) := by decide +kernel
theorem dX5_keep_4 : decode cX5_keep 4 = .ok (.bipush 8, 2) := by decide +kernel
theorem dX5_keep_6 : decode cX5_keep 6 = .ok (.if_icmp .ne 55, 3) := by decide +kernel
theorem dX5_keep_9 : decode cX5_keep 9 = .ok (.iconst 1, 1) := by decide +kernel
theorem dX5_keep_10 : decode cX5_keep 10 = .ok (.istore_n 3, 1) := by decide +kernel
theorem dX5_keep_11 : decode cX5_keep 11 = .ok (.iload_n 3, 1) := by decide +kernel
theorem dX5_keep_12 : decode cX5_keep 12 = .ok (.bipush 8, 2) := by decide +kernel
theorem dX5_keep_14 : decode cX5_keep 14 = .ok (.if_icmp .ge 37, 3) := by decide +kernel
theorem dX5_keep_17 : decode cX5_keep 17 = .ok (.aload_n 0, 1) := by decide +kernel
theorem dX5_keep_18 : decode cX5_keep 18 = .ok (.getfield 13, 3) := by decide +kernel
theorem dX5_keep_21 : decode cX5_keep 21 = .ok (.iload_n 3, 1) := by decide +kernel
theorem dX5_keep_22 : decode cX5_keep 22 = .ok (.iconst 1, 1) := by decide +kernel
theorem dX5_keep_23 : decode cX5_keep 23 = .ok (.isub, 1) := by decide +kernel
theorem dX5_keep_24 : decode cX5_keep 24 = .ok (.aload_n 0, 1) := by decide +kernel
theorem dX5_keep_25 : decode cX5_keep 25 = .ok (.getfield 13, 3) := by decide +kernel
theorem dX5_keep_28 : decode cX5_keep 28 = .ok (.iload_n 3, 1) := by decide +kernel
theorem dX5_keep_29 : decode cX5_keep 29 = .ok (.aaload, 1) := by decide +kernel
theorem dX5_keep_30 : decode cX5_keep 30 = .ok (.aastore, 1) := by decide +kernel
theorem dX5_keep_31 : decode cX5_keep 31 = .ok (.aload_n 0, 1) := by decide +kernel
theorem dX5_keep_32 : decode cX5_keep 32 = .ok (.getfield 17, 3) := by decide +kernel
theorem dX5_keep_35 : decode cX5_keep 35 = .ok (.iload_n 3, 1) := by decide +kernel
theorem dX5_keep_36 : decode cX5_keep 36 = .ok (.iconst 1, 1) := by decide +kernel
theorem dX5_keep_37 : decode cX5_keep 37 = .ok (.isub, 1) := by decide +kernel
theorem dX5_keep_38 : decode cX5_keep 38 = .ok (.aload_n 0, 1) := by decide +kernel
theorem dX5_keep_39 : decode cX5_keep 39 = .ok (.getfield 17, 3) := by decide +kernel
theorem dX5_keep_42 : decode cX5_keep 42 = .ok (.iload_n 3, 1) := by decide +kernel
theorem dX5_keep_43 : decode cX5_keep 43 = .ok (.iaload, 1) := by decide +kernel
theorem dX5_keep_44 : decode cX5_keep 44 = .ok (.iastore, 1) := by decide +kernel
theorem dX5_keep_45 : decode cX5_keep 45 = .ok (.iinc 3 1, 3) := by decide +kernel
theorem dX5_keep_48 : decode cX5_keep 48 = .ok (.goto (-37), 3) := by decide +kernel
theorem dX5_keep_51 : decode cX5_keep 51 = .ok (.aload_n 0, 1) := by decide +kernel
theorem dX5_keep_52 : decode cX5_keep 52 = .ok (.dup, 1) := by decide +kernel
theorem dX5_keep_53 : decode cX5_keep 53 = .ok (.getfield 21, 3) := by decide +kernel
theorem dX5_keep_56 : decode cX5_keep 56 = .ok (.iconst 1, 1) := by decide +kernel
theorem dX5_keep_57 : decode cX5_keep 57 = .ok (.isub, 1) := by decide +kernel
theorem dX5_keep_58 : decode cX5_keep 58 = .ok (.putfield 21, 3) := by decide +kernel
theorem dX5_keep_61 : decode cX5_keep 61 = .ok (.aload_n 0, 1) := by decide +kernel
theorem dX5_keep_62 : decode cX5_keep 62 = .ok (.getfield 13, 3) := by decide +kernel
theorem dX5_keep_65 : decode cX5_keep 65 = .ok (.aload_n 0, 1) := by decide +kernel
theorem dX5_keep_66 : decode cX5_keep 66 = .ok (.getfield 21, 3) := by decide +kernel
theorem dX5_keep_69 : decode cX5_keep 69 = .ok (.aload_n 2, 1) := by decide +kernel
theorem dX5_keep_70 : decode cX5_keep 70 = .ok (.aastore, 1) := by decide +kernel
theorem dX5_keep_71 : decode cX5_keep 71 = .ok (.aload_n 0, 1) := by decide +kernel
theorem dX5_keep_72 : decode cX5_keep 72 = .ok (.getfield 17, 3) := by decide +kernel
theorem dX5_keep_75 : decode cX5_keep 75 = .ok (.aload_n 0, 1) := by decide +kernel
theorem dX5_keep_76 : decode cX5_keep 76 = .ok (.getfield 21, 3) := by decide +kernel
theorem dX5_keep_79 : decode cX5_keep 79 = .ok (.iload_n 1, 1) := by decide +kernel
theorem dX5_keep_80 : decode cX5_keep 80 = .ok (.iastore, 1) := by decide +kernel
theorem dX5_keep_81 : decode cX5_keep 81 = .ok (.aload_n 0, 1) := by decide +kernel
theorem dX5_keep_82 : decode cX5_keep 82 = .ok (.dup, 1) := by decide +kernel
theorem dX5_keep_83 : decode cX5_keep 83 = .ok (.getfield 21, 3) := by decide +kernel
theorem dX5_keep_86 : decode cX5_keep 86 = .ok (.iconst 1, 1) := by decide +kernel
theorem dX5_keep_87 : decode cX5_keep 87 = .ok (.iadd, 1) := by decide +kernel
theorem dX5_keep_88 : decode cX5_keep 88 = .ok (.putfield 21, 3) := by decide +kernel
theorem dX5_keep_91 : decode cX5_keep 91 = .ok (.return_, 1) := by decide +kernel
theorem dX5_latestKind_0 : decode cX5_latestKind 0 = .ok (.aload_n 0, 1) := by decide +kernel
theorem dX5_latestKind_1 : decode cX5_latestKind 1 = .ok (.getfield 21, 3) := by decide +kernel
theorem dX5_latestKind_4 : decode cX5_latestKind 4 = .ok (.ifCond .le 17, 3) := by decide +kernel
theorem dX5_latestKind_7 : decode cX5_latestKind 7 = .ok (.aload_n 0, 1) := by decide +kernel
theorem dX5_latestKind_8 : decode cX5_latestKind 8 = .ok (.getfield 17, 3) := by decide +kernel
theorem dX5_latestKind_11 : decode cX5_latestKind 11 = .ok (.aload_n 0, 1) := by decide +kernel
theorem dX5_latestKind_12 : decode cX5_latestKind 12 = .ok (.getfield 21, 3) := by decide +kernel
theorem dX5_latestKind_15 : decode cX5_latestKind 15 = .ok (.iconst 1, 1) := by decide +kernel
theorem dX5_latestKind_16 : decode cX5_latestKind 16 = .ok (.isub, 1) := by decide +kernel
theorem dX5_latestKind_17 : decode cX5_latestKind 17 = .ok (.iaload, 1) := by decide +kernel
theorem dX5_latestKind_18 : decode cX5_latestKind 18 = .ok (.goto 4, 3) := by decide +kernel
theorem dX5_latestKind_21 : decode cX5_latestKind 21 = .ok (.iconst (-1), 1) := by decide +kernel
theorem dX5_latestKind_22 : decode cX5_latestKind 22 = .ok (.ireturn, 1) := by decide +kernel
theorem dX5_drop_0 : decode cX5_drop 0 = .ok (.aload_n 0, 1) := by decide +kernel
theorem dX5_drop_1 : decode cX5_drop 1 = .ok (.getfield 21, 3) := by decide +kernel
theorem dX5_drop_4 : decode cX5_drop 4 = .ok (.ifCond .ne 5, 3) := by decide +kernel
theorem dX5_drop_7 : decode cX5_drop 7 = .ok (.aload_n 1, 1) := by decide +kernel
theorem dX5_drop_8 : decode cX5_drop 8 = .ok (.areturn, 1) := by decide +kernel
theorem dX5_drop_9 : decode cX5_drop 9 = .ok (.aload_n 0, 1) := by decide +kernel
theorem dX5_drop_10 : decode cX5_drop 10 = .ok (.dup, 1) := by decide +kernel
theorem dX5_drop_11 : decode cX5_drop 11 = .ok (.getfield 21, 3) := by decide +kernel
theorem dX5_drop_14 : decode cX5_drop 14 = .ok (.iconst 1, 1) := by decide +kernel
theorem dX5_drop_15 : decode cX5_drop 15 = .ok (.isub, 1) := by decide +kernel
theorem dX5_drop_16 : decode cX5_drop 16 = .ok (.putfield 21, 3) := by decide +kernel
theorem dX5_drop_19 : decode cX5_drop 19 = .ok (.aload_n 0, 1) := by decide +kernel
theorem dX5_drop_20 : decode cX5_drop 20 = .ok (.getfield 13, 3) := by decide +kernel
theorem dX5_drop_23 : decode cX5_drop 23 = .ok (.aload_n 0, 1) := by decide +kernel
theorem dX5_drop_24 : decode cX5_drop 24 = .ok (.getfield 21, 3) := by decide +kernel
theorem dX5_drop_27 : decode cX5_drop 27 = .ok (.aaload, 1) := by decide +kernel
theorem dX5_drop_28 : decode cX5_drop 28 = .ok (.astore_n 2, 1) := by decide +kernel
theorem dX5_drop_29 : decode cX5_drop 29 = .ok (.aload_n 0, 1) := by decide +kernel
theorem dX5_drop_30 : decode cX5_drop 30 = .ok (.getfield 13, 3) := by decide +kernel
theorem dX5_drop_33 : decode cX5_drop 33 = .ok (.aload_n 0, 1) := by decide +kernel
theorem dX5_drop_34 : decode cX5_drop 34 = .ok (.getfield 21, 3) := by decide +kernel
theorem dX5_drop_37 : decode cX5_drop 37 = .ok (.aconst_null, 1) := by decide +kernel
theorem dX5_drop_38 : decode cX5_drop 38 = .ok (.aastore, 1) := by decide +kernel
theorem dX5_drop_39 : decode cX5_drop 39 = .ok (.aload_n 2, 1) := by decide +kernel
theorem dX5_drop_40 : decode cX5_drop 40 = .ok (.ifnonnull 7, 3) := by decide +kernel
theorem dX5_drop_43 : decode cX5_drop 43 = .ok (.aload_n 1, 1) := by decide +kernel
theorem dX5_drop_44 : decode cX5_drop 44 = .ok (.goto 4, 3) := by decide +kernel
theorem dX5_drop_47 : decode cX5_drop 47 = .ok (.aload_n 2, 1) := by decide +kernel
theorem dX5_drop_48 : decode cX5_drop 48 = .ok (.areturn, 1) := by decide +kernel
theorem dX5_forget_0 : decode cX5_forget 0 = .ok (.iconst 0, 1) := by decide +kernel
theorem dX5_forget_1 : decode cX5_forget 1 = .ok (.istore_n 1, 1) := by decide +kernel
theorem dX5_forget_2 : decode cX5_forget 2 = .ok (.iload_n 1, 1) := by decide +kernel
theorem dX5_forget_3 : decode cX5_forget 3 = .ok (.bipush 8, 2) := by decide +kernel
theorem dX5_forget_5 : decode cX5_forget 5 = .ok (.if_icmp .ge 16, 3) := by decide +kernel
theorem dX5_forget_8 : decode cX5_forget 8 = .ok (.aload_n 0, 1) := by decide +kernel
theorem dX5_forget_9 : decode cX5_forget 9 = .ok (.getfield 13, 3) := by decide +kernel
theorem dX5_forget_12 : decode cX5_forget 12 = .ok (.iload_n 1, 1) := by decide +kernel
theorem dX5_forget_13 : decode cX5_forget 13 = .ok (.aconst_null, 1) := by decide +kernel
theorem dX5_forget_14 : decode cX5_forget 14 = .ok (.aastore, 1) := by decide +kernel
theorem dX5_forget_15 : decode cX5_forget 15 = .ok (.iinc 1 1, 3) := by decide +kernel
theorem dX5_forget_18 : decode cX5_forget 18 = .ok (.goto (-16), 3) := by decide +kernel
theorem dX5_forget_21 : decode cX5_forget 21 = .ok (.aload_n 0, 1) := by decide +kernel
theorem dX5_forget_22 : decode cX5_forget 22 = .ok (.iconst 0, 1) := by decide +kernel
theorem dX5_forget_23 : decode cX5_forget 23 = .ok (.putfield 21, 3) := by decide +kernel
theorem dX5_forget_26 : decode cX5_forget 26 = .ok (.return_, 1) := by decide +kernel
theorem dX6_init_0 : decode cX6_init 0 = .ok (.aload_n 0, 1) := by decide +kernel
theorem dX6_init_1 : decode cX6_init 1 = .ok (.invokespecial 3, 3) := by decide +kernel
theorem dX6_init_4 : decode cX6_init 4 = .ok (.aload_n 0, 1) := by decide +kernel
theorem dX6_init_5 : decode cX6_init 5 = .ok (.iconst 0, 1) := by decide +kernel
theorem dX6_init_6 : decode cX6_init 6 = .ok (.iload_n 2, 1) := by decide +kernel
theorem dX6_init_7 : decode cX6_init 7 = .ok (.aload_n 1, 1) := by decide +kernel
theorem dX6_init_8 : decode cX6_init 8 = .ok (.arraylength, 1) := by decide +kernel
theorem dX6_init_9 : decode cX6_init 9 = .ok (.iconst 1, 1) := by decide +kernel
theorem dX6_init_10 : decode cX6_init 10 = .ok (.isub, 1) := by decide +kernel
theorem dX6_init_11 : decode cX6_init 11 = .ok (.bipush 12, 2) := by decide +kernel
theorem dX6_init_13 : decode cX6_init 13 = .ok (.invokestatic 9, 3) := by decide +kernel
theorem dX6_init_16 : decode cX6_init 16 = .ok (.invokestatic 9, 3) := by decide +kernel
theorem dX6_init_19 : decode cX6_init 19 = .ok (.invokestatic 15, 3) := by decide +kernel
theorem dX6_init_22 : decode cX6_init 22 = .ok (.putfield 18, 3) := by decide +kernel
theorem dX6_init_25 : decode cX6_init 25 = .ok (.aload_n 0, 1) := by decide +kernel
theorem dX6_init_26 : decode cX6_init 26 = .ok (.aload_n 0, 1) := by decide +kernel
theorem dX6_init_27 : decode cX6_init 27 = .ok (.getfield 18, 3) := by decide +kernel
theorem dX6_init_30 : decode cX6_init 30 = .ok (.iconst 1, 1) := by decide +kernel
theorem dX6_init_31 : decode cX6_init 31 = .ok (.iadd, 1) := by decide +kernel
theorem dX6_init_32 : decode cX6_init 32 = .ok (.newarray .int, 2) := by decide +kernel
theorem dX6_init_34 : decode cX6_init 34 = .ok (.putfield 24, 3) := by decide +kernel
theorem dX6_init_37 : decode cX6_init 37 = .ok (.iconst 0, 1) := by decide +kernel
theorem dX6_init_38 : decode cX6_init 38 = .ok (.istore_n 3, 1) := by decide +kernel
theorem dX6_init_39 : decode cX6_init 39 = .ok (.iload_n 3, 1) := by decide +kernel
theorem dX6_init_40 : decode cX6_init 40 = .ok (.aload_n 0, 1) := by decide +kernel
theorem dX6_init_41 : decode cX6_init 41 = .ok (.getfield 18, 3) := by decide +kernel
theorem dX6_init_44 : decode cX6_init 44 = .ok (.if_icmp .gt 25, 3) := by decide +kernel
theorem dX6_init_47 : decode cX6_init 47 = .ok (.iload_n 3, 1) := by decide +kernel
theorem dX6_init_48 : decode cX6_init 48 = .ok (.aload_n 1, 1) := by decide +kernel
theorem dX6_init_49 : decode cX6_init 49 = .ok (.arraylength, 1) := by decide +kernel
theorem dX6_init_50 : decode cX6_init 50 = .ok (.if_icmp .ge 19, 3) := by decide +kernel
theorem dX6_init_53 : decode cX6_init 53 = .ok (.aload_n 0, 1) := by decide +kernel
theorem dX6_init_54 : decode cX6_init 54 = .ok (.getfield 24, 3) := by decide +kernel
theorem dX6_init_57 : decode cX6_init 57 = .ok (.iload_n 3, 1) := by decide +kernel
theorem dX6_init_58 : decode cX6_init 58 = .ok (.aload_n 1, 1) := by decide +kernel
theorem dX6_init_59 : decode cX6_init 59 = .ok (.iload_n 3, 1) := by decide +kernel
theorem dX6_init_60 : decode cX6_init 60 = .ok (.laload, 1) := by decide +kernel
theorem dX6_init_61 : decode cX6_init 61 = .ok (.l2i, 1) := by decide +kernel
theorem dX6_init_62 : decode cX6_init 62 = .ok (.iastore, 1) := by decide +kernel
theorem dX6_init_63 : decode cX6_init 63 = .ok (.iinc 3 1, 3) := by decide +kernel
theorem dX6_init_66 : decode cX6_init 66 = .ok (.goto (-27), 3) := by decide +kernel
theorem dX6_init_69 : decode cX6_init 69 = .ok (.return_, 1) := by decide +kernel
theorem dX6_topOf_0 : decode cX6_topOf 0 = .ok (.aload_n 0, 1) := by decide +kernel
theorem dX6_topOf_1 : decode cX6_topOf 1 = .ok (.arraylength, 1) := by decide +kernel
theorem dX6_topOf_2 : decode cX6_topOf 2 = .ok (.iconst 1, 1) := by decide +kernel
theorem dX6_topOf_3 : decode cX6_topOf 3 = .ok (.isub, 1) := by decide +kernel
theorem dX6_topOf_4 : decode cX6_topOf 4 = .ok (.istore_n 1, 1) := by decide +kernel
theorem dX6_topOf_5 : decode cX6_topOf 5 = .ok (.iload_n 1, 1) := by decide +kernel
theorem dX6_topOf_6 : decode cX6_topOf 6 = .ok (.ifCond .lt 17, 3) := by decide +kernel
theorem dX6_topOf_9 : decode cX6_topOf 9 = .ok (.aload_n 0, 1) := by decide +kernel
theorem dX6_topOf_10 : decode cX6_topOf 10 = .ok (.iload_n 1, 1) := by decide +kernel
theorem dX6_topOf_11 : decode cX6_topOf 11 = .ok (.laload, 1) := by decide +kernel
theorem dX6_topOf_12 : decode cX6_topOf 12 = .ok (.lconst 0, 1) := by decide +kernel
theorem dX6_topOf_13 : decode cX6_topOf 13 = .ok (.lcmp, 1) := by decide +kernel
theorem dX6_topOf_14 : decode cX6_topOf 14 = .ok (.ifCond .ne 9, 3) := by decide +kernel
theorem dX6_topOf_17 : decode cX6_topOf 17 = .ok (.iinc 1 (-1), 3) := by decide +kernel
theorem dX6_topOf_20 : decode cX6_topOf 20 = .ok (.goto (-15), 3) := by decide +kernel
theorem dX6_topOf_23 : decode cX6_topOf 23 = .ok (.iload_n 1, 1) := by decide +kernel
theorem dX6_topOf_24 : decode cX6_topOf 24 = .ok (.ireturn, 1) := by decide +kernel
theorem dX6_canBeInStore_0 : decode cX6_canBeInStore 0 = .ok (.iload_n 1, 1) := by decide +kernel
theorem dX6_canBeInStore_1 : decode cX6_canBeInStore 1 = .ok (.ifCond .lt 15, 3) := by decide +kernel
theorem dX6_canBeInStore_4 : decode cX6_canBeInStore 4 = .ok (.iload_n 1, 1) := by decide +kernel
theorem dX6_canBeInStore_5 : decode cX6_canBeInStore 5 = .ok (.bipush 12, 2) := by decide +kernel
theorem dX6_canBeInStore_7 : decode cX6_canBeInStore 7 = .ok (.if_icmp .gt 9, 3) := by decide +kernel
theorem dX6_canBeInStore_10 : decode cX6_canBeInStore 10 = .ok (.iload_n 1, 1) := by decide +kernel
theorem dX6_canBeInStore_11 : decode cX6_canBeInStore 11 = .ok (.aload_n 0, 1) := by decide +kernel
theorem dX6_canBeInStore_12 : decode cX6_canBeInStore 12 = .ok (.arraylength, 1) := by decide +kernel
theorem dX6_canBeInStore_13 : decode cX6_canBeInStore 13 = .ok (.if_icmp .lt 5, 3) := by decide +kernel
theorem dX6_canBeInStore_16 : decode cX6_canBeInStore 16 = .ok (.iconst 0, 1) := by decide +kernel
theorem dX6_canBeInStore_17 : decode cX6_canBeInStore 17 = .ok (.ireturn, 1) := by decide +kernel
theorem dX6_canBeInStore_18 : decode cX6_canBeInStore 18 = .ok (.iconst 0, 1) := by decide +kernel
theorem dX6_canBeInStore_19 : decode cX6_canBeInStore 19 = .ok (.istore_n 2, 1) := by decide +kernel
theorem dX6_canBeInStore_20 : decode cX6_canBeInStore 20 = .ok (.iload_n 2, 1) := by decide +kernel
theorem dX6_canBeInStore_21 : decode cX6_canBeInStore 21 = .ok (.iload_n 1, 1) := by decide +kernel
theorem dX6_canBeInStore_22 : decode cX6_canBeInStore 22 = .ok (.if_icmp .gt 31, 3) := by decide +kernel
theorem dX6_canBeInStore_25 : decode cX6_canBeInStore 25 = .ok (.aload_n 0, 1) := by decide +kernel
theorem dX6_canBeInStore_26 : decode cX6_canBeInStore 26 = .ok (.iload_n 2, 1) := by decide +kernel
theorem dX6_canBeInStore_27 : decode cX6_canBeInStore 27 = .ok (.laload, 1) := by decide +kernel
theorem dX6_canBeInStore_28 : decode cX6_canBeInStore 28 = .ok (.ldc2_w 28, 3) := by decide +kernel
theorem dX6_canBeInStore_31 : decode cX6_canBeInStore 31 = .ok (.lcmp, 1) := by decide +kernel
theorem dX6_canBeInStore_32 : decode cX6_canBeInStore 32 = .ok (.ifCond .gt 13, 3) := by decide +kernel
theorem dX6_canBeInStore_35 : decode cX6_canBeInStore 35 = .ok (.aload_n 0, 1) := by decide +kernel
theorem dX6_canBeInStore_36 : decode cX6_canBeInStore 36 = .ok (.iload_n 2, 1) := by decide +kernel
theorem dX6_canBeInStore_37 : decode cX6_canBeInStore 37 = .ok (.laload, 1) := by decide +kernel
theorem dX6_canBeInStore_38 : decode cX6_canBeInStore 38 = .ok (.ldc2_w 30, 3) := by decide +kernel
theorem dX6_canBeInStore_41 : decode cX6_canBeInStore 41 = .ok (.lcmp, 1) := by decide +kernel
theorem dX6_canBeInStore_42 : decode cX6_canBeInStore 42 = .ok (.ifCond .ge 5, 3) := by decide +kernel
theorem dX6_canBeInStore_45 : decode cX6_canBeInStore 45 = .ok (.iconst 0, 1) := by decide +kernel
theorem dX6_canBeInStore_46 : decode cX6_canBeInStore 46 = .ok (.ireturn, 1) := by decide +kernel
theorem dX6_canBeInStore_47 : decode cX6_canBeInStore 47 = .ok (.iinc 2 1, 3) := by decide +kernel
theorem dX6_canBeInStore_50 : decode cX6_canBeInStore 50 = .ok (.goto (-30), 3) := by decide +kernel
theorem dX6_canBeInStore_53 : decode cX6_canBeInStore 53 = .ok (.iconst 1, 1) := by decide +kernel
theorem dX6_canBeInStore_54 : decode cX6_canBeInStore 54 = .ok (.ireturn, 1) := by decide +kernel
theorem dX6_ofPower_0 : decode cX6_ofPower 0 = .ok (.iload_n 1, 1) := by decide +kernel
theorem dX6_ofPower_1 : decode cX6_ofPower 1 = .ok (.ifCond .lt 20, 3) := by decide +kernel
theorem dX6_ofPower_4 : decode cX6_ofPower 4 = .ok (.iload_n 1, 1) := by decide +kernel
theorem dX6_ofPower_5 : decode cX6_ofPower 5 = .ok (.aload_n 0, 1) := by decide +kernel
theorem dX6_ofPower_6 : decode cX6_ofPower 6 = .ok (.getfield 18, 3) := by decide +kernel
theorem dX6_ofPower_9 : decode cX6_ofPower 9 = .ok (.if_icmp .gt 12, 3) := by decide +kernel
theorem dX6_ofPower_12 : decode cX6_ofPower 12 = .ok (.aload_n 0, 1) := by decide +kernel
theorem dX6_ofPower_13 : decode cX6_ofPower 13 = .ok (.getfield 24, 3) := by decide +kernel
theorem dX6_ofPower_16 : decode cX6_ofPower 16 = .ok (.iload_n 1, 1) := by decide +kernel
theorem dX6_ofPower_17 : decode cX6_ofPower 17 = .ok (.iaload, 1) := by decide +kernel
theorem dX6_ofPower_18 : decode cX6_ofPower 18 = .ok (.goto 4, 3) := by decide +kernel
theorem dX6_ofPower_21 : decode cX6_ofPower 21 = .ok (.iconst 0, 1) := by decide +kernel
theorem dX6_ofPower_22 : decode cX6_ofPower 22 = .ok (.ireturn, 1) := by decide +kernel
theorem dX6_writeTo_0 : decode cX6_writeTo 0 = .ok (.aload_n 1, 1) := by decide +kernel
theorem dX6_writeTo_1 : decode cX6_writeTo 1 = .ok (.lconst 0, 1) := by decide +kernel
theorem dX6_writeTo_2 : decode cX6_writeTo 2 = .ok (.invokestatic 32, 3) := by decide +kernel
theorem dX6_writeTo_5 : decode cX6_writeTo 5 = .ok (.iconst 0, 1) := by decide +kernel
theorem dX6_writeTo_6 : decode cX6_writeTo 6 = .ok (.istore_n 2, 1) := by decide +kernel
theorem dX6_writeTo_7 : decode cX6_writeTo 7 = .ok (.iload_n 2, 1) := by decide +kernel
theorem dX6_writeTo_8 : decode cX6_writeTo 8 = .ok (.aload_n 0, 1) := by decide +kernel
theorem dX6_writeTo_9 : decode cX6_writeTo 9 = .ok (.getfield 18, 3) := by decide +kernel
theorem dX6_writeTo_12 : decode cX6_writeTo 12 = .ok (.if_icmp .gt 25, 3) := by decide +kernel
theorem dX6_writeTo_15 : decode cX6_writeTo 15 = .ok (.iload_n 2, 1) := by decide +kernel
theorem dX6_writeTo_16 : decode cX6_writeTo 16 = .ok (.aload_n 1, 1) := by decide +kernel
theorem dX6_writeTo_17 : decode cX6_writeTo 17 = .ok (.arraylength, 1) := by decide +kernel
theorem dX6_writeTo_18 : decode cX6_writeTo 18 = .ok (.if_icmp .ge 19, 3) := by decide +kernel
theorem dX6_writeTo_21 : decode cX6_writeTo 21 = .ok (.aload_n 1, 1) := by decide +kernel
theorem dX6_writeTo_22 : decode cX6_writeTo 22 = .ok (.iload_n 2, 1) := by decide +kernel
theorem dX6_writeTo_23 : decode cX6_writeTo 23 = .ok (.aload_n 0, 1) := by decide +kernel
theorem dX6_writeTo_24 : decode cX6_writeTo 24 = .ok (.getfield 24, 3) := by decide +kernel
theorem dX6_writeTo_27 : decode cX6_writeTo 27 = .ok (.iload_n 2, 1) := by decide +kernel
theorem dX6_writeTo_28 : decode cX6_writeTo 28 = .ok (.iaload, 1) := by decide +kernel
theorem dX6_writeTo_29 : decode cX6_writeTo 29 = .ok (.i2l, 1) := by decide +kernel
theorem dX6_writeTo_30 : decode cX6_writeTo 30 = .ok (.lastore, 1) := by decide +kernel
theorem dX6_writeTo_31 : decode cX6_writeTo 31 = .ok (.iinc 2 1, 3) := by decide +kernel
theorem dX6_writeTo_34 : decode cX6_writeTo 34 = .ok (.goto (-27), 3) := by decide +kernel
theorem dX6_writeTo_37 : decode cX6_writeTo 37 = .ok (.return_, 1) := by decide +kernel
theorem dX6_writeProduct_0 : decode cX6_writeProduct 0 = .ok (.aload_n 2, 1) := by decide +kernel
theorem dX6_writeProduct_1 : decode cX6_writeProduct 1 = .ok (.lconst 0, 1) := by decide +kernel
theorem dX6_writeProduct_2 : decode cX6_writeProduct 2 = .ok (.invokestatic 32, 3) := by decide +kernel
theorem dX6_writeProduct_5 : decode cX6_writeProduct 5 = .ok (.iconst 0, 1) := by decide +kernel
theorem dX6_writeProduct_6 : decode cX6_writeProduct 6 = .ok (.istore_n 3, 1) := by decide +kernel
theorem dX6_writeProduct_7 : decode cX6_writeProduct 7 = .ok (.iload_n 3, 1) := by decide +kernel
theorem dX6_writeProduct_8 : decode cX6_writeProduct 8 = .ok (.aload_n 0, 1) := by decide +kernel
theorem dX6_writeProduct_9 : decode cX6_writeProduct 9 = .ok (.getfield 18, 3) := by decide +kernel
theorem dX6_writeProduct_12 : decode cX6_writeProduct 12 = .ok (.if_icmp .gt 61, 3) := by decide +kernel
theorem dX6_writeProduct_15 : decode cX6_writeProduct 15 = .ok (.iconst 0, 1) := by decide +kernel
theorem dX6_writeProduct_16 : decode cX6_writeProduct 16 = .ok (.istore 4, 2) := by decide +kernel
theorem dX6_writeProduct_18 : decode cX6_writeProduct 18 = .ok (.iload 4, 2) := by decide +kernel
theorem dX6_writeProduct_20 : decode cX6_writeProduct 20 = .ok (.aload_n 1, 1) := by decide +kernel
theorem dX6_writeProduct_21 : decode cX6_writeProduct 21 = .ok (.getfield 18, 3) := by decide +kernel
theorem dX6_writeProduct_24 : decode cX6_writeProduct 24 = .ok (.if_icmp .gt 43, 3) := by decide +kernel
theorem dX6_writeProduct_27 : decode cX6_writeProduct 27 = .ok (.iload_n 3, 1) := by decide +kernel
theorem dX6_writeProduct_28 : decode cX6_writeProduct 28 = .ok (.iload 4, 2) := by decide +kernel
theorem dX6_writeProduct_30 : decode cX6_writeProduct 30 = .ok (.iadd, 1) := by decide +kernel
theorem dX6_writeProduct_31 : decode cX6_writeProduct 31 = .ok (.aload_n 2, 1) := by decide +kernel
theorem dX6_writeProduct_32 : decode cX6_writeProduct 32 = .ok (.arraylength, 1) := by decide +kernel
theorem dX6_writeProduct_33 : decode cX6_writeProduct 33 = .ok (.if_icmp .ge 34, 3) := by decide +kernel
theorem dX6_writeProduct_36 : decode cX6_writeProduct 36 = .ok (.aload_n 2, 1) := by decide +kernel
theorem dX6_writeProduct_37 : decode cX6_writeProduct 37 = .ok (.iload_n 3, 1) := by decide +kernel
theorem dX6_writeProduct_38 : decode cX6_writeProduct 38 = .ok (.iload 4, 2) := by decide +kernel
theorem dX6_writeProduct_40 : decode cX6_writeProduct 40 = .ok (.iadd, 1) := by decide +kernel
theorem dX6_writeProduct_41 : decode cX6_writeProduct 41 = .ok (.dup2, 1) := by decide +kernel
theorem dX6_writeProduct_42 : decode cX6_writeProduct 42 = .ok (.laload, 1) := by decide +kernel
theorem dX6_writeProduct_43 : decode cX6_writeProduct 43 = .ok (.aload_n 0, 1) := by decide +kernel
theorem dX6_writeProduct_44 : decode cX6_writeProduct 44 = .ok (.getfield 24, 3) := by decide +kernel
theorem dX6_writeProduct_47 : decode cX6_writeProduct 47 = .ok (.iload_n 3, 1) := by decide +kernel
theorem dX6_writeProduct_48 : decode cX6_writeProduct 48 = .ok (.iaload, 1) := by decide +kernel
theorem dX6_writeProduct_49 : decode cX6_writeProduct 49 = .ok (.i2l, 1) := by decide +kernel
theorem dX6_writeProduct_50 : decode cX6_writeProduct 50 = .ok (.aload_n 1, 1) := by decide +kernel
theorem dX6_writeProduct_51 : decode cX6_writeProduct 51 = .ok (.getfield 24, 3) := by decide +kernel
theorem dX6_writeProduct_54 : decode cX6_writeProduct 54 = .ok (.iload 4, 2) := by decide +kernel
theorem dX6_writeProduct_56 : decode cX6_writeProduct 56 = .ok (.iaload, 1) := by decide +kernel
theorem dX6_writeProduct_57 : decode cX6_writeProduct 57 = .ok (.i2l, 1) := by decide +kernel
theorem dX6_writeProduct_58 : decode cX6_writeProduct 58 = .ok (.lmul, 1) := by decide +kernel
theorem dX6_writeProduct_59 : decode cX6_writeProduct 59 = .ok (.ladd, 1) := by decide +kernel
theorem dX6_writeProduct_60 : decode cX6_writeProduct 60 = .ok (.lastore, 1) := by decide +kernel
theorem dX6_writeProduct_61 : decode cX6_writeProduct 61 = .ok (.iinc 4 1, 3) := by decide +kernel
theorem dX6_writeProduct_64 : decode cX6_writeProduct 64 = .ok (.goto (-46), 3) := by decide +kernel
theorem dX6_writeProduct_67 : decode cX6_writeProduct 67 = .ok (.iinc 3 1, 3) := by decide +kernel
theorem dX6_writeProduct_70 : decode cX6_writeProduct 70 = .ok (.goto (-63), 3) := by decide +kernel
theorem dX6_writeProduct_73 : decode cX6_writeProduct 73 = .ok (.return_, 1) := by decide +kernel
theorem dX6_writeTurned_0 : decode cX6_writeTurned 0 = .ok (.aload_n 2, 1) := by decide +kernel
theorem dX6_writeTurned_1 : decode cX6_writeTurned 1 = .ok (.lconst 0, 1) := by decide +kernel
theorem dX6_writeTurned_2 : decode cX6_writeTurned 2 = .ok (.invokestatic 32, 3) := by decide +kernel
theorem dX6_writeTurned_5 : decode cX6_writeTurned 5 = .ok (.iconst 0, 1) := by decide +kernel
theorem dX6_writeTurned_6 : decode cX6_writeTurned 6 = .ok (.istore_n 3, 1) := by decide +kernel
theorem dX6_writeTurned_7 : decode cX6_writeTurned 7 = .ok (.iload_n 3, 1) := by decide +kernel
theorem dX6_writeTurned_8 : decode cX6_writeTurned 8 = .ok (.aload_n 0, 1) := by decide +kernel
theorem dX6_writeTurned_9 : decode cX6_writeTurned 9 = .ok (.getfield 18, 3) := by decide +kernel
theorem dX6_writeTurned_12 : decode cX6_writeTurned 12 = .ok (.if_icmp .gt 146, 3) := by decide +kernel
theorem dX6_writeTurned_15 : decode cX6_writeTurned 15 = .ok (.iconst 2, 1) := by decide +kernel
theorem dX6_writeTurned_16 : decode cX6_writeTurned 16 = .ok (.iload_n 3, 1) := by decide +kernel
theorem dX6_writeTurned_17 : decode cX6_writeTurned 17 = .ok (.imul, 1) := by decide +kernel
theorem dX6_writeTurned_18 : decode cX6_writeTurned 18 = .ok (.aload_n 2, 1) := by decide +kernel
theorem dX6_writeTurned_19 : decode cX6_writeTurned 19 = .ok (.arraylength, 1) := by decide +kernel
theorem dX6_writeTurned_20 : decode cX6_writeTurned 20 = .ok (.if_icmp .ge 138, 3) := by decide +kernel
theorem dX6_writeTurned_23 : decode cX6_writeTurned 23 = .ok (.iload_n 1, 1) := by decide +kernel
theorem dX6_writeTurned_24 : decode cX6_writeTurned 24 = .ok (.tableswitch 109 0 3 #[32, 50, 80, 95], 32) := by decide +kernel
theorem dX6_writeTurned_56 : decode cX6_writeTurned 56 = .ok (.aload_n 2, 1) := by decide +kernel
theorem dX6_writeTurned_57 : decode cX6_writeTurned 57 = .ok (.aload_n 0, 1) := by decide +kernel
theorem dX6_writeTurned_58 : decode cX6_writeTurned 58 = .ok (.getfield 18, 3) := by decide +kernel
theorem dX6_writeTurned_61 : decode cX6_writeTurned 61 = .ok (.iload_n 3, 1) := by decide +kernel
theorem dX6_writeTurned_62 : decode cX6_writeTurned 62 = .ok (.isub, 1) := by decide +kernel
theorem dX6_writeTurned_63 : decode cX6_writeTurned 63 = .ok (.aload_n 0, 1) := by decide +kernel
theorem dX6_writeTurned_64 : decode cX6_writeTurned 64 = .ok (.getfield 24, 3) := by decide +kernel
theorem dX6_writeTurned_67 : decode cX6_writeTurned 67 = .ok (.iload_n 3, 1) := by decide +kernel
theorem dX6_writeTurned_68 : decode cX6_writeTurned 68 = .ok (.iaload, 1) := by decide +kernel
theorem dX6_writeTurned_69 : decode cX6_writeTurned 69 = .ok (.i2l, 1) := by decide +kernel
theorem dX6_writeTurned_70 : decode cX6_writeTurned 70 = .ok (.lastore, 1) := by decide +kernel
theorem dX6_writeTurned_71 : decode cX6_writeTurned 71 = .ok (.goto 81, 3) := by decide +kernel
theorem dX6_writeTurned_74 : decode cX6_writeTurned 74 = .ok (.aload_n 2, 1) := by decide +kernel
theorem dX6_writeTurned_75 : decode cX6_writeTurned 75 = .ok (.iload_n 3, 1) := by decide +kernel
theorem dX6_writeTurned_76 : decode cX6_writeTurned 76 = .ok (.iload_n 3, 1) := by decide +kernel
theorem dX6_writeTurned_77 : decode cX6_writeTurned 77 = .ok (.iconst 2, 1) := by decide +kernel
theorem dX6_writeTurned_78 : decode cX6_writeTurned 78 = .ok (.irem, 1) := by decide +kernel
theorem dX6_writeTurned_79 : decode cX6_writeTurned 79 = .ok (.ifCond .ne 13, 3) := by decide +kernel
theorem dX6_writeTurned_82 : decode cX6_writeTurned 82 = .ok (.aload_n 0, 1) := by decide +kernel
theorem dX6_writeTurned_83 : decode cX6_writeTurned 83 = .ok (.getfield 24, 3) := by decide +kernel
theorem dX6_writeTurned_86 : decode cX6_writeTurned 86 = .ok (.iload_n 3, 1) := by decide +kernel
theorem dX6_writeTurned_87 : decode cX6_writeTurned 87 = .ok (.iaload, 1) := by decide +kernel
theorem dX6_writeTurned_88 : decode cX6_writeTurned 88 = .ok (.i2l, 1) := by decide +kernel
theorem dX6_writeTurned_89 : decode cX6_writeTurned 89 = .ok (.goto 11, 3) := by decide +kernel
theorem dX6_writeTurned_92 : decode cX6_writeTurned 92 = .ok (.aload_n 0, 1) := by decide +kernel
theorem dX6_writeTurned_93 : decode cX6_writeTurned 93 = .ok (.getfield 24, 3) := by decide +kernel
theorem dX6_writeTurned_96 : decode cX6_writeTurned 96 = .ok (.iload_n 3, 1) := by decide +kernel
theorem dX6_writeTurned_97 : decode cX6_writeTurned 97 = .ok (.iaload, 1) := by decide +kernel
theorem dX6_writeTurned_98 : decode cX6_writeTurned 98 = .ok (.ineg, 1) := by decide +kernel
theorem dX6_writeTurned_99 : decode cX6_writeTurned 99 = .ok (.i2l, 1) := by decide +kernel
theorem dX6_writeTurned_100 : decode cX6_writeTurned 100 = .ok (.lastore, 1) := by decide +kernel
theorem dX6_writeTurned_101 : decode cX6_writeTurned 101 = .ok (.goto 51, 3) := by decide +kernel
theorem dX6_writeTurned_104 : decode cX6_writeTurned 104 = .ok (.aload_n 2, 1) := by decide +kernel
theorem dX6_writeTurned_105 : decode cX6_writeTurned 105 = .ok (.iconst 2, 1) := by decide +kernel
theorem dX6_writeTurned_106 : decode cX6_writeTurned 106 = .ok (.iload_n 3, 1) := by decide +kernel
theorem dX6_writeTurned_107 : decode cX6_writeTurned 107 = .ok (.imul, 1) := by decide +kernel
theorem dX6_writeTurned_108 : decode cX6_writeTurned 108 = .ok (.aload_n 0, 1) := by decide +kernel
theorem dX6_writeTurned_109 : decode cX6_writeTurned 109 = .ok (.getfield 24, 3) := by decide +kernel
theorem dX6_writeTurned_112 : decode cX6_writeTurned 112 = .ok (.iload_n 3, 1) := by decide +kernel
theorem dX6_writeTurned_113 : decode cX6_writeTurned 113 = .ok (.iaload, 1) := by decide +kernel
theorem dX6_writeTurned_114 : decode cX6_writeTurned 114 = .ok (.i2l, 1) := by decide +kernel
theorem dX6_writeTurned_115 : decode cX6_writeTurned 115 = .ok (.lastore, 1) := by decide +kernel
theorem dX6_writeTurned_116 : decode cX6_writeTurned 116 = .ok (.goto 36, 3) := by decide +kernel
theorem dX6_writeTurned_119 : decode cX6_writeTurned 119 = .ok (.aload_n 2, 1) := by decide +kernel
theorem dX6_writeTurned_120 : decode cX6_writeTurned 120 = .ok (.iload_n 3, 1) := by decide +kernel
theorem dX6_writeTurned_121 : decode cX6_writeTurned 121 = .ok (.aload_n 0, 1) := by decide +kernel
theorem dX6_writeTurned_122 : decode cX6_writeTurned 122 = .ok (.getfield 24, 3) := by decide +kernel
theorem dX6_writeTurned_125 : decode cX6_writeTurned 125 = .ok (.iload_n 3, 1) := by decide +kernel
theorem dX6_writeTurned_126 : decode cX6_writeTurned 126 = .ok (.iaload, 1) := by decide +kernel
theorem dX6_writeTurned_127 : decode cX6_writeTurned 127 = .ok (.ineg, 1) := by decide +kernel
theorem dX6_writeTurned_128 : decode cX6_writeTurned 128 = .ok (.i2l, 1) := by decide +kernel
theorem dX6_writeTurned_129 : decode cX6_writeTurned 129 = .ok (.lastore, 1) := by decide +kernel
theorem dX6_writeTurned_130 : decode cX6_writeTurned 130 = .ok (.goto 22, 3) := by decide +kernel
theorem dX6_writeTurned_133 : decode cX6_writeTurned 133 = .ok (.iload_n 3, 1) := by decide +kernel
theorem dX6_writeTurned_134 : decode cX6_writeTurned 134 = .ok (.ifCond .le 18, 3) := by decide +kernel
theorem dX6_writeTurned_137 : decode cX6_writeTurned 137 = .ok (.aload_n 2, 1) := by decide +kernel
theorem dX6_writeTurned_138 : decode cX6_writeTurned 138 = .ok (.iload_n 3, 1) := by decide +kernel
theorem dX6_writeTurned_139 : decode cX6_writeTurned 139 = .ok (.iconst 1, 1) := by decide +kernel
theorem dX6_writeTurned_140 : decode cX6_writeTurned 140 = .ok (.isub, 1) := by decide +kernel
theorem dX6_writeTurned_141 : decode cX6_writeTurned 141 = .ok (.iload_n 3, 1) := by decide +kernel
theorem dX6_writeTurned_142 : decode cX6_writeTurned 142 = .ok (.i2l, 1) := by decide +kernel
theorem dX6_writeTurned_143 : decode cX6_writeTurned 143 = .ok (.aload_n 0, 1) := by decide +kernel
theorem dX6_writeTurned_144 : decode cX6_writeTurned 144 = .ok (.getfield 24, 3) := by decide +kernel
theorem dX6_writeTurned_147 : decode cX6_writeTurned 147 = .ok (.iload_n 3, 1) := by decide +kernel
theorem dX6_writeTurned_148 : decode cX6_writeTurned 148 = .ok (.iaload, 1) := by decide +kernel
theorem dX6_writeTurned_149 : decode cX6_writeTurned 149 = .ok (.i2l, 1) := by decide +kernel
theorem dX6_writeTurned_150 : decode cX6_writeTurned 150 = .ok (.lmul, 1) := by decide +kernel
theorem dX6_writeTurned_151 : decode cX6_writeTurned 151 = .ok (.lastore, 1) := by decide +kernel
theorem dX6_writeTurned_152 : decode cX6_writeTurned 152 = .ok (.iinc 3 1, 3) := by decide +kernel
theorem dX6_writeTurned_155 : decode cX6_writeTurned 155 = .ok (.goto (-148), 3) := by decide +kernel
theorem dX6_writeTurned_158 : decode cX6_writeTurned 158 = .ok (.return_, 1) := by decide +kernel
theorem dX6_divides_0 : decode cX6_divides 0 = .ok (.aload_n 0, 1) := by decide +kernel
theorem dX6_divides_1 : decode cX6_divides 1 = .ok (.getfield 24, 3) := by decide +kernel
theorem dX6_divides_4 : decode cX6_divides 4 = .ok (.aload_n 0, 1) := by decide +kernel
theorem dX6_divides_5 : decode cX6_divides 5 = .ok (.getfield 18, 3) := by decide +kernel
theorem dX6_divides_8 : decode cX6_divides 8 = .ok (.iaload, 1) := by decide +kernel
theorem dX6_divides_9 : decode cX6_divides 9 = .ok (.istore 4, 2) := by decide +kernel
theorem dX6_divides_11 : decode cX6_divides 11 = .ok (.iload 4, 2) := by decide +kernel
theorem dX6_divides_13 : decode cX6_divides 13 = .ok (.ifCond .eq 28, 3) := by decide +kernel
theorem dX6_divides_16 : decode cX6_divides 16 = .ok (.iload_n 2, 1) := by decide +kernel
theorem dX6_divides_17 : decode cX6_divides 17 = .ok (.aload_n 0, 1) := by decide +kernel
theorem dX6_divides_18 : decode cX6_divides 18 = .ok (.getfield 18, 3) := by decide +kernel
theorem dX6_divides_21 : decode cX6_divides 21 = .ok (.if_icmp .lt 20, 3) := by decide +kernel
theorem dX6_divides_24 : decode cX6_divides 24 = .ok (.iload_n 2, 1) := by decide +kernel
theorem dX6_divides_25 : decode cX6_divides 25 = .ok (.aload_n 1, 1) := by decide +kernel
theorem dX6_divides_26 : decode cX6_divides 26 = .ok (.arraylength, 1) := by decide +kernel
theorem dX6_divides_27 : decode cX6_divides 27 = .ok (.if_icmp .ge 14, 3) := by decide +kernel
theorem dX6_divides_30 : decode cX6_divides 30 = .ok (.iload_n 2, 1) := by decide +kernel
theorem dX6_divides_31 : decode cX6_divides 31 = .ok (.aload_n 0, 1) := by decide +kernel
theorem dX6_divides_32 : decode cX6_divides 32 = .ok (.getfield 18, 3) := by decide +kernel
theorem dX6_divides_35 : decode cX6_divides 35 = .ok (.isub, 1) := by decide +kernel
theorem dX6_divides_36 : decode cX6_divides 36 = .ok (.aload_n 3, 1) := by decide +kernel
theorem dX6_divides_37 : decode cX6_divides 37 = .ok (.arraylength, 1) := by decide +kernel
theorem dX6_divides_38 : decode cX6_divides 38 = .ok (.if_icmp .lt 5, 3) := by decide +kernel
theorem dX6_divides_41 : decode cX6_divides 41 = .ok (.iconst 0, 1) := by decide +kernel
theorem dX6_divides_42 : decode cX6_divides 42 = .ok (.ireturn, 1) := by decide +kernel
theorem dX6_divides_43 : decode cX6_divides 43 = .ok (.aload_n 3, 1) := by decide +kernel
theorem dX6_divides_44 : decode cX6_divides 44 = .ok (.lconst 0, 1) := by decide +kernel
theorem dX6_divides_45 : decode cX6_divides 45 = .ok (.invokestatic 32, 3) := by decide +kernel
theorem dX6_divides_48 : decode cX6_divides 48 = .ok (.iload_n 2, 1) := by decide +kernel
theorem dX6_divides_49 : decode cX6_divides 49 = .ok (.aload_n 0, 1) := by decide +kernel
theorem dX6_divides_50 : decode cX6_divides 50 = .ok (.getfield 18, 3) := by decide +kernel
theorem dX6_divides_53 : decode cX6_divides 53 = .ok (.isub, 1) := by decide +kernel
theorem dX6_divides_54 : decode cX6_divides 54 = .ok (.istore 5, 2) := by decide +kernel
theorem dX6_divides_56 : decode cX6_divides 56 = .ok (.iload 5, 2) := by decide +kernel
theorem dX6_divides_58 : decode cX6_divides 58 = .ok (.ifCond .lt 112, 3) := by decide +kernel
theorem dX6_divides_61 : decode cX6_divides 61 = .ok (.aload_n 1, 1) := by decide +kernel
theorem dX6_divides_62 : decode cX6_divides 62 = .ok (.iload 5, 2) := by decide +kernel
theorem dX6_divides_64 : decode cX6_divides 64 = .ok (.aload_n 0, 1) := by decide +kernel
theorem dX6_divides_65 : decode cX6_divides 65 = .ok (.getfield 18, 3) := by decide +kernel
theorem dX6_divides_68 : decode cX6_divides 68 = .ok (.iadd, 1) := by decide +kernel
theorem dX6_divides_69 : decode cX6_divides 69 = .ok (.laload, 1) := by decide +kernel
theorem dX6_divides_70 : decode cX6_divides 70 = .ok (.lstore 6, 2) := by decide +kernel
theorem dX6_divides_72 : decode cX6_divides 72 = .ok (.lload 6, 2) := by decide +kernel
theorem dX6_divides_74 : decode cX6_divides 74 = .ok (.iload 4, 2) := by decide +kernel
theorem dX6_divides_76 : decode cX6_divides 76 = .ok (.i2l, 1) := by decide +kernel
theorem dX6_divides_77 : decode cX6_divides 77 = .ok (.ldiv, 1) := by decide +kernel
theorem dX6_divides_78 : decode cX6_divides 78 = .ok (.lstore 8, 2) := by decide +kernel
theorem dX6_divides_80 : decode cX6_divides 80 = .ok (.lload 8, 2) := by decide +kernel
theorem dX6_divides_82 : decode cX6_divides 82 = .ok (.iload 4, 2) := by decide +kernel
theorem dX6_divides_84 : decode cX6_divides 84 = .ok (.i2l, 1) := by decide +kernel
theorem dX6_divides_85 : decode cX6_divides 85 = .ok (.lmul, 1) := by decide +kernel
theorem dX6_divides_86 : decode cX6_divides 86 = .ok (.lload 6, 2) := by decide +kernel
theorem dX6_divides_88 : decode cX6_divides 88 = .ok (.lcmp, 1) := by decide +kernel
theorem dX6_divides_89 : decode cX6_divides 89 = .ok (.ifCond .ne 21, 3) := by decide +kernel
theorem dX6_divides_92 : decode cX6_divides 92 = .ok (.lload 8, 2) := by decide +kernel
theorem dX6_divides_94 : decode cX6_divides 94 = .ok (.ldc2_w 38, 3) := by decide +kernel
theorem dX6_divides_97 : decode cX6_divides 97 = .ok (.lcmp, 1) := by decide +kernel
theorem dX6_divides_98 : decode cX6_divides 98 = .ok (.ifCond .gt 12, 3) := by decide +kernel
theorem dX6_divides_101 : decode cX6_divides 101 = .ok (.lload 8, 2) := by decide +kernel
theorem dX6_divides_103 : decode cX6_divides 103 = .ok (.ldc2_w 40, 3) := by decide +kernel
theorem dX6_divides_106 : decode cX6_divides 106 = .ok (.lcmp, 1) := by decide +kernel
theorem dX6_divides_107 : decode cX6_divides 107 = .ok (.ifCond .ge 5, 3) := by decide +kernel
theorem dX6_divides_110 : decode cX6_divides 110 = .ok (.iconst 0, 1) := by decide +kernel
theorem dX6_divides_111 : decode cX6_divides 111 = .ok (.ireturn, 1) := by decide +kernel
theorem dX6_divides_112 : decode cX6_divides 112 = .ok (.aload_n 3, 1) := by decide +kernel
theorem dX6_divides_113 : decode cX6_divides 113 = .ok (.iload 5, 2) := by decide +kernel
theorem dX6_divides_115 : decode cX6_divides 115 = .ok (.lload 8, 2) := by decide +kernel
theorem dX6_divides_117 : decode cX6_divides 117 = .ok (.lastore, 1) := by decide +kernel
theorem dX6_divides_118 : decode cX6_divides 118 = .ok (.iconst 0, 1) := by decide +kernel
theorem dX6_divides_119 : decode cX6_divides 119 = .ok (.istore 10, 2) := by decide +kernel
theorem dX6_divides_121 : decode cX6_divides 121 = .ok (.lload 8, 2) := by decide +kernel
theorem dX6_divides_123 : decode cX6_divides 123 = .ok (.lconst 0, 1) := by decide +kernel
theorem dX6_divides_124 : decode cX6_divides 124 = .ok (.lcmp, 1) := by decide +kernel
theorem dX6_divides_125 : decode cX6_divides 125 = .ok (.ifCond .eq 39, 3) := by decide +kernel
theorem dX6_divides_128 : decode cX6_divides 128 = .ok (.iload 10, 2) := by decide +kernel
theorem dX6_divides_130 : decode cX6_divides 130 = .ok (.aload_n 0, 1) := by decide +kernel
theorem dX6_divides_131 : decode cX6_divides 131 = .ok (.getfield 18, 3) := by decide +kernel
theorem dX6_divides_134 : decode cX6_divides 134 = .ok (.if_icmp .ge 30, 3) := by decide +kernel
theorem dX6_divides_137 : decode cX6_divides 137 = .ok (.aload_n 1, 1) := by decide +kernel
theorem dX6_divides_138 : decode cX6_divides 138 = .ok (.iload 5, 2) := by decide +kernel
theorem dX6_divides_140 : decode cX6_divides 140 = .ok (.iload 10, 2) := by decide +kernel
theorem dX6_divides_142 : decode cX6_divides 142 = .ok (.iadd, 1) := by decide +kernel
theorem dX6_divides_143 : decode cX6_divides 143 = .ok (.dup2, 1) := by decide +kernel
theorem dX6_divides_144 : decode cX6_divides 144 = .ok (.laload, 1) := by decide +kernel
theorem dX6_divides_145 : decode cX6_divides 145 = .ok (.lload 8, 2) := by decide +kernel
theorem dX6_divides_147 : decode cX6_divides 147 = .ok (.aload_n 0, 1) := by decide +kernel
theorem dX6_divides_148 : decode cX6_divides 148 = .ok (.getfield 24, 3) := by decide +kernel
theorem dX6_divides_151 : decode cX6_divides 151 = .ok (.iload 10, 2) := by decide +kernel
theorem dX6_divides_153 : decode cX6_divides 153 = .ok (.iaload, 1) := by decide +kernel
theorem dX6_divides_154 : decode cX6_divides 154 = .ok (.i2l, 1) := by decide +kernel
theorem dX6_divides_155 : decode cX6_divides 155 = .ok (.lmul, 1) := by decide +kernel
theorem dX6_divides_156 : decode cX6_divides 156 = .ok (.lsub, 1) := by decide +kernel
theorem dX6_divides_157 : decode cX6_divides 157 = .ok (.lastore, 1) := by decide +kernel
theorem dX6_divides_158 : decode cX6_divides 158 = .ok (.iinc 10 1, 3) := by decide +kernel
theorem dX6_divides_161 : decode cX6_divides 161 = .ok (.goto (-40), 3) := by decide +kernel
theorem dX6_divides_164 : decode cX6_divides 164 = .ok (.iinc 5 (-1), 3) := by decide +kernel
theorem dX6_divides_167 : decode cX6_divides 167 = .ok (.goto (-111), 3) := by decide +kernel
theorem dX6_divides_170 : decode cX6_divides 170 = .ok (.iconst 0, 1) := by decide +kernel
theorem dX6_divides_171 : decode cX6_divides 171 = .ok (.istore 5, 2) := by decide +kernel
theorem dX6_divides_173 : decode cX6_divides 173 = .ok (.iload 5, 2) := by decide +kernel
theorem dX6_divides_175 : decode cX6_divides 175 = .ok (.aload_n 0, 1) := by decide +kernel
theorem dX6_divides_176 : decode cX6_divides 176 = .ok (.getfield 18, 3) := by decide +kernel
theorem dX6_divides_179 : decode cX6_divides 179 = .ok (.if_icmp .ge 20, 3) := by decide +kernel
theorem dX6_divides_182 : decode cX6_divides 182 = .ok (.aload_n 1, 1) := by decide +kernel
theorem dX6_divides_183 : decode cX6_divides 183 = .ok (.iload 5, 2) := by decide +kernel
theorem dX6_divides_185 : decode cX6_divides 185 = .ok (.laload, 1) := by decide +kernel
theorem dX6_divides_186 : decode cX6_divides 186 = .ok (.lconst 0, 1) := by decide +kernel
theorem dX6_divides_187 : decode cX6_divides 187 = .ok (.lcmp, 1) := by decide +kernel
theorem dX6_divides_188 : decode cX6_divides 188 = .ok (.ifCond .eq 5, 3) := by decide +kernel
theorem dX6_divides_191 : decode cX6_divides 191 = .ok (.iconst 0, 1) := by decide +kernel
theorem dX6_divides_192 : decode cX6_divides 192 = .ok (.ireturn, 1) := by decide +kernel
theorem dX6_divides_193 : decode cX6_divides 193 = .ok (.iinc 5 1, 3) := by decide +kernel
theorem dX6_divides_196 : decode cX6_divides 196 = .ok (.goto (-23), 3) := by decide +kernel
theorem dX6_divides_199 : decode cX6_divides 199 = .ok (.iconst 1, 1) := by decide +kernel
theorem dX6_divides_200 : decode cX6_divides 200 = .ok (.ireturn, 1) := by decide +kernel
theorem dX6_sizes_0 : decode cX6_sizes 0 = .ok (.iconst 0, 1) := by decide +kernel
theorem dX6_sizes_1 : decode cX6_sizes 1 = .ok (.istore_n 1, 1) := by decide +kernel
theorem dX6_sizes_2 : decode cX6_sizes 2 = .ok (.iconst 0, 1) := by decide +kernel
theorem dX6_sizes_3 : decode cX6_sizes 3 = .ok (.istore_n 2, 1) := by decide +kernel
theorem dX6_sizes_4 : decode cX6_sizes 4 = .ok (.iload_n 2, 1) := by decide +kernel
theorem dX6_sizes_5 : decode cX6_sizes 5 = .ok (.aload_n 0, 1) := by decide +kernel
theorem dX6_sizes_6 : decode cX6_sizes 6 = .ok (.getfield 18, 3) := by decide +kernel
theorem dX6_sizes_9 : decode cX6_sizes 9 = .ok (.if_icmp .gt 21, 3) := by decide +kernel
theorem dX6_sizes_12 : decode cX6_sizes 12 = .ok (.iload_n 1, 1) := by decide +kernel
theorem dX6_sizes_13 : decode cX6_sizes 13 = .ok (.aload_n 0, 1) := by decide +kernel
theorem dX6_sizes_14 : decode cX6_sizes 14 = .ok (.getfield 24, 3) := by decide +kernel
theorem dX6_sizes_17 : decode cX6_sizes 17 = .ok (.iload_n 2, 1) := by decide +kernel
theorem dX6_sizes_18 : decode cX6_sizes 18 = .ok (.iaload, 1) := by decide +kernel
theorem dX6_sizes_19 : decode cX6_sizes 19 = .ok (.invokestatic 42, 3) := by decide +kernel
theorem dX6_sizes_22 : decode cX6_sizes 22 = .ok (.iadd, 1) := by decide +kernel
theorem dX6_sizes_23 : decode cX6_sizes 23 = .ok (.istore_n 1, 1) := by decide +kernel
theorem dX6_sizes_24 : decode cX6_sizes 24 = .ok (.iinc 2 1, 3) := by decide +kernel
theorem dX6_sizes_27 : decode cX6_sizes 27 = .ok (.goto (-23), 3) := by decide +kernel
theorem dX6_sizes_30 : decode cX6_sizes 30 = .ok (.iload_n 1, 1) := by decide +kernel
theorem dX6_sizes_31 : decode cX6_sizes 31 = .ok (.ireturn, 1) := by decide +kernel
theorem dX6_greatestSize_0 : decode cX6_greatestSize 0 = .ok (.iconst 0, 1) := by decide +kernel
theorem dX6_greatestSize_1 : decode cX6_greatestSize 1 = .ok (.istore_n 1, 1) := by decide +kernel
theorem dX6_greatestSize_2 : decode cX6_greatestSize 2 = .ok (.iconst 0, 1) := by decide +kernel
theorem dX6_greatestSize_3 : decode cX6_greatestSize 3 = .ok (.istore_n 2, 1) := by decide +kernel
theorem dX6_greatestSize_4 : decode cX6_greatestSize 4 = .ok (.iload_n 2, 1) := by decide +kernel
theorem dX6_greatestSize_5 : decode cX6_greatestSize 5 = .ok (.aload_n 0, 1) := by decide +kernel
theorem dX6_greatestSize_6 : decode cX6_greatestSize 6 = .ok (.getfield 18, 3) := by decide +kernel
theorem dX6_greatestSize_9 : decode cX6_greatestSize 9 = .ok (.if_icmp .gt 23, 3) := by decide +kernel
theorem dX6_greatestSize_12 : decode cX6_greatestSize 12 = .ok (.iload_n 1, 1) := by decide +kernel
theorem dX6_greatestSize_13 : decode cX6_greatestSize 13 = .ok (.aload_n 0, 1) := by decide +kernel
theorem dX6_greatestSize_14 : decode cX6_greatestSize 14 = .ok (.getfield 24, 3) := by decide +kernel
theorem dX6_greatestSize_17 : decode cX6_greatestSize 17 = .ok (.iload_n 2, 1) := by decide +kernel
theorem dX6_greatestSize_18 : decode cX6_greatestSize 18 = .ok (.iaload, 1) := by decide +kernel
theorem dX6_greatestSize_19 : decode cX6_greatestSize 19 = .ok (.invokestatic 42, 3) := by decide +kernel
theorem dX6_greatestSize_22 : decode cX6_greatestSize 22 = .ok (.invokestatic 15, 3) := by decide +kernel
theorem dX6_greatestSize_25 : decode cX6_greatestSize 25 = .ok (.istore_n 1, 1) := by decide +kernel
theorem dX6_greatestSize_26 : decode cX6_greatestSize 26 = .ok (.iinc 2 1, 3) := by decide +kernel
theorem dX6_greatestSize_29 : decode cX6_greatestSize 29 = .ok (.goto (-25), 3) := by decide +kernel
theorem dX6_greatestSize_32 : decode cX6_greatestSize 32 = .ok (.iload_n 1, 1) := by decide +kernel
theorem dX6_greatestSize_33 : decode cX6_greatestSize 33 = .ok (.ireturn, 1) := by decide +kernel
theorem dX6_squares_0 : decode cX6_squares 0 = .ok (.iconst 0, 1) := by decide +kernel
theorem dX6_squares_1 : decode cX6_squares 1 = .ok (.istore_n 1, 1) := by decide +kernel
theorem dX6_squares_2 : decode cX6_squares 2 = .ok (.iconst 0, 1) := by decide +kernel
theorem dX6_squares_3 : decode cX6_squares 3 = .ok (.istore_n 2, 1) := by decide +kernel
theorem dX6_squares_4 : decode cX6_squares 4 = .ok (.iload_n 2, 1) := by decide +kernel
theorem dX6_squares_5 : decode cX6_squares 5 = .ok (.aload_n 0, 1) := by decide +kernel
theorem dX6_squares_6 : decode cX6_squares 6 = .ok (.getfield 18, 3) := by decide +kernel
theorem dX6_squares_9 : decode cX6_squares 9 = .ok (.if_icmp .gt 25, 3) := by decide +kernel
theorem dX6_squares_12 : decode cX6_squares 12 = .ok (.iload_n 1, 1) := by decide +kernel
theorem dX6_squares_13 : decode cX6_squares 13 = .ok (.aload_n 0, 1) := by decide +kernel
theorem dX6_squares_14 : decode cX6_squares 14 = .ok (.getfield 24, 3) := by decide +kernel
theorem dX6_squares_17 : decode cX6_squares 17 = .ok (.iload_n 2, 1) := by decide +kernel
theorem dX6_squares_18 : decode cX6_squares 18 = .ok (.iaload, 1) := by decide +kernel
theorem dX6_squares_19 : decode cX6_squares 19 = .ok (.aload_n 0, 1) := by decide +kernel
theorem dX6_squares_20 : decode cX6_squares 20 = .ok (.getfield 24, 3) := by decide +kernel
theorem dX6_squares_23 : decode cX6_squares 23 = .ok (.iload_n 2, 1) := by decide +kernel
theorem dX6_squares_24 : decode cX6_squares 24 = .ok (.iaload, 1) := by decide +kernel
theorem dX6_squares_25 : decode cX6_squares 25 = .ok (.imul, 1) := by decide +kernel
theorem dX6_squares_26 : decode cX6_squares 26 = .ok (.iadd, 1) := by decide +kernel
theorem dX6_squares_27 : decode cX6_squares 27 = .ok (.istore_n 1, 1) := by decide +kernel
theorem dX6_squares_28 : decode cX6_squares 28 = .ok (.iinc 2 1, 3) := by decide +kernel
theorem dX6_squares_31 : decode cX6_squares 31 = .ok (.goto (-27), 3) := by decide +kernel
theorem dX6_squares_34 : decode cX6_squares 34 = .ok (.iload_n 1, 1) := by decide +kernel
theorem dX6_squares_35 : decode cX6_squares 35 = .ok (.ireturn, 1) := by decide +kernel
theorem dX6_isReciprocal_0 : decode cX6_isReciprocal 0 = .ok (.iconst 0, 1) := by decide +kernel
theorem dX6_isReciprocal_1 : decode cX6_isReciprocal 1 = .ok (.istore_n 1, 1) := by decide +kernel
theorem dX6_isReciprocal_2 : decode cX6_isReciprocal 2 = .ok (.iload_n 1, 1) := by decide +kernel
theorem dX6_isReciprocal_3 : decode cX6_isReciprocal 3 = .ok (.aload_n 0, 1) := by decide +kernel
theorem dX6_isReciprocal_4 : decode cX6_isReciprocal 4 = .ok (.getfield 18, 3) := by decide +kernel
theorem dX6_isReciprocal_7 : decode cX6_isReciprocal 7 = .ok (.if_icmp .gt 31, 3) := by decide +kernel
theorem dX6_isReciprocal_10 : decode cX6_isReciprocal 10 = .ok (.aload_n 0, 1) := by decide +kernel
theorem dX6_isReciprocal_11 : decode cX6_isReciprocal 11 = .ok (.getfield 24, 3) := by decide +kernel
theorem dX6_isReciprocal_14 : decode cX6_isReciprocal 14 = .ok (.iload_n 1, 1) := by decide +kernel
theorem dX6_isReciprocal_15 : decode cX6_isReciprocal 15 = .ok (.iaload, 1) := by decide +kernel
theorem dX6_isReciprocal_16 : decode cX6_isReciprocal 16 = .ok (.aload_n 0, 1) := by decide +kernel
theorem dX6_isReciprocal_17 : decode cX6_isReciprocal 17 = .ok (.getfield 24, 3) := by decide +kernel
theorem dX6_isReciprocal_20 : decode cX6_isReciprocal 20 = .ok (.aload_n 0, 1) := by decide +kernel
theorem dX6_isReciprocal_21 : decode cX6_isReciprocal 21 = .ok (.getfield 18, 3) := by decide +kernel
theorem dX6_isReciprocal_24 : decode cX6_isReciprocal 24 = .ok (.iload_n 1, 1) := by decide +kernel
theorem dX6_isReciprocal_25 : decode cX6_isReciprocal 25 = .ok (.isub, 1) := by decide +kernel
theorem dX6_isReciprocal_26 : decode cX6_isReciprocal 26 = .ok (.iaload, 1) := by decide +kernel
theorem dX6_isReciprocal_27 : decode cX6_isReciprocal 27 = .ok (.if_icmp .eq 5, 3) := by decide +kernel
theorem dX6_isReciprocal_30 : decode cX6_isReciprocal 30 = .ok (.iconst 0, 1) := by decide +kernel
theorem dX6_isReciprocal_31 : decode cX6_isReciprocal 31 = .ok (.ireturn, 1) := by decide +kernel
theorem dX6_isReciprocal_32 : decode cX6_isReciprocal 32 = .ok (.iinc 1 1, 3) := by decide +kernel
theorem dX6_isReciprocal_35 : decode cX6_isReciprocal 35 = .ok (.goto (-33), 3) := by decide +kernel
theorem dX6_isReciprocal_38 : decode cX6_isReciprocal 38 = .ok (.iconst 1, 1) := by decide +kernel
theorem dX6_isReciprocal_39 : decode cX6_isReciprocal 39 = .ok (.ireturn, 1) := by decide +kernel
theorem dX6_terms_0 : decode cX6_terms 0 = .ok (.iconst 0, 1) := by decide +kernel
theorem dX6_terms_1 : decode cX6_terms 1 = .ok (.istore_n 1, 1) := by decide +kernel
theorem dX6_terms_2 : decode cX6_terms 2 = .ok (.iconst 0, 1) := by decide +kernel
theorem dX6_terms_3 : decode cX6_terms 3 = .ok (.istore_n 2, 1) := by decide +kernel
theorem dX6_terms_4 : decode cX6_terms 4 = .ok (.iload_n 2, 1) := by decide +kernel
theorem dX6_terms_5 : decode cX6_terms 5 = .ok (.aload_n 0, 1) := by decide +kernel
theorem dX6_terms_6 : decode cX6_terms 6 = .ok (.getfield 18, 3) := by decide +kernel
theorem dX6_terms_9 : decode cX6_terms 9 = .ok (.if_icmp .gt 26, 3) := by decide +kernel
theorem dX6_terms_12 : decode cX6_terms 12 = .ok (.iload_n 1, 1) := by decide +kernel
theorem dX6_terms_13 : decode cX6_terms 13 = .ok (.aload_n 0, 1) := by decide +kernel
theorem dX6_terms_14 : decode cX6_terms 14 = .ok (.getfield 24, 3) := by decide +kernel
theorem dX6_terms_17 : decode cX6_terms 17 = .ok (.iload_n 2, 1) := by decide +kernel
theorem dX6_terms_18 : decode cX6_terms 18 = .ok (.iaload, 1) := by decide +kernel
theorem dX6_terms_19 : decode cX6_terms 19 = .ok (.ifCond .ne 7, 3) := by decide +kernel
theorem dX6_terms_22 : decode cX6_terms 22 = .ok (.iconst 0, 1) := by decide +kernel
theorem dX6_terms_23 : decode cX6_terms 23 = .ok (.goto 4, 3) := by decide +kernel
theorem dX6_terms_26 : decode cX6_terms 26 = .ok (.iconst 1, 1) := by decide +kernel
theorem dX6_terms_27 : decode cX6_terms 27 = .ok (.iadd, 1) := by decide +kernel
theorem dX6_terms_28 : decode cX6_terms 28 = .ok (.istore_n 1, 1) := by decide +kernel
theorem dX6_terms_29 : decode cX6_terms 29 = .ok (.iinc 2 1, 3) := by decide +kernel
theorem dX6_terms_32 : decode cX6_terms 32 = .ok (.goto (-28), 3) := by decide +kernel
theorem dX6_terms_35 : decode cX6_terms 35 = .ok (.iload_n 1, 1) := by decide +kernel
theorem dX6_terms_36 : decode cX6_terms 36 = .ok (.ireturn, 1) := by decide +kernel
theorem dX6_commonDivisor_0 : decode cX6_commonDivisor 0 = .ok (.iconst 0, 1) := by decide +kernel
theorem dX6_commonDivisor_1 : decode cX6_commonDivisor 1 = .ok (.istore_n 1, 1) := by decide +kernel
theorem dX6_commonDivisor_2 : decode cX6_commonDivisor 2 = .ok (.iconst 0, 1) := by decide +kernel
theorem dX6_commonDivisor_3 : decode cX6_commonDivisor 3 = .ok (.istore_n 2, 1) := by decide +kernel
theorem dX6_commonDivisor_4 : decode cX6_commonDivisor 4 = .ok (.iload_n 2, 1) := by decide +kernel
theorem dX6_commonDivisor_5 : decode cX6_commonDivisor 5 = .ok (.aload_n 0, 1) := by decide +kernel
theorem dX6_commonDivisor_6 : decode cX6_commonDivisor 6 = .ok (.getfield 18, 3) := by decide +kernel
theorem dX6_commonDivisor_9 : decode cX6_commonDivisor 9 = .ok (.if_icmp .gt 23, 3) := by decide +kernel
theorem dX6_commonDivisor_12 : decode cX6_commonDivisor 12 = .ok (.iload_n 1, 1) := by decide +kernel
theorem dX6_commonDivisor_13 : decode cX6_commonDivisor 13 = .ok (.aload_n 0, 1) := by decide +kernel
theorem dX6_commonDivisor_14 : decode cX6_commonDivisor 14 = .ok (.getfield 24, 3) := by decide +kernel
theorem dX6_commonDivisor_17 : decode cX6_commonDivisor 17 = .ok (.iload_n 2, 1) := by decide +kernel
theorem dX6_commonDivisor_18 : decode cX6_commonDivisor 18 = .ok (.iaload, 1) := by decide +kernel
theorem dX6_commonDivisor_19 : decode cX6_commonDivisor 19 = .ok (.invokestatic 42, 3) := by decide +kernel
theorem dX6_commonDivisor_22 : decode cX6_commonDivisor 22 = .ok (.invokestatic 46, 3) := by decide +kernel
theorem dX6_commonDivisor_25 : decode cX6_commonDivisor 25 = .ok (.istore_n 1, 1) := by decide +kernel
theorem dX6_commonDivisor_26 : decode cX6_commonDivisor 26 = .ok (.iinc 2 1, 3) := by decide +kernel
theorem dX6_commonDivisor_29 : decode cX6_commonDivisor 29 = .ok (.goto (-25), 3) := by decide +kernel
theorem dX6_commonDivisor_32 : decode cX6_commonDivisor 32 = .ok (.iload_n 1, 1) := by decide +kernel
theorem dX6_commonDivisor_33 : decode cX6_commonDivisor 33 = .ok (.ireturn, 1) := by decide +kernel
theorem dX6_commonOf_0 : decode cX6_commonOf 0 = .ok (.iload_n 0, 1) := by decide +kernel
theorem dX6_commonOf_1 : decode cX6_commonOf 1 = .ok (.istore_n 2, 1) := by decide +kernel
theorem dX6_commonOf_2 : decode cX6_commonOf 2 = .ok (.iload_n 1, 1) := by decide +kernel
theorem dX6_commonOf_3 : decode cX6_commonOf 3 = .ok (.istore_n 3, 1) := by decide +kernel
theorem dX6_commonOf_4 : decode cX6_commonOf 4 = .ok (.iconst 0, 1) := by decide +kernel
theorem dX6_commonOf_5 : decode cX6_commonOf 5 = .ok (.istore 4, 2) := by decide +kernel
theorem dX6_commonOf_7 : decode cX6_commonOf 7 = .ok (.iload 4, 2) := by decide +kernel
theorem dX6_commonOf_9 : decode cX6_commonOf 9 = .ok (.bipush 64, 2) := by decide +kernel
theorem dX6_commonOf_11 : decode cX6_commonOf 11 = .ok (.if_icmp .ge 23, 3) := by decide +kernel
theorem dX6_commonOf_14 : decode cX6_commonOf 14 = .ok (.iload_n 3, 1) := by decide +kernel
theorem dX6_commonOf_15 : decode cX6_commonOf 15 = .ok (.ifCond .eq 19, 3) := by decide +kernel
theorem dX6_commonOf_18 : decode cX6_commonOf 18 = .ok (.iload_n 2, 1) := by decide +kernel
theorem dX6_commonOf_19 : decode cX6_commonOf 19 = .ok (.iload_n 3, 1) := by decide +kernel
theorem dX6_commonOf_20 : decode cX6_commonOf 20 = .ok (.irem, 1) := by decide +kernel
theorem dX6_commonOf_21 : decode cX6_commonOf 21 = .ok (.istore 5, 2) := by decide +kernel
theorem dX6_commonOf_23 : decode cX6_commonOf 23 = .ok (.iload_n 3, 1) := by decide +kernel
theorem dX6_commonOf_24 : decode cX6_commonOf 24 = .ok (.istore_n 2, 1) := by decide +kernel
theorem dX6_commonOf_25 : decode cX6_commonOf 25 = .ok (.iload 5, 2) := by decide +kernel
theorem dX6_commonOf_27 : decode cX6_commonOf 27 = .ok (.istore_n 3, 1) := by decide +kernel
theorem dX6_commonOf_28 : decode cX6_commonOf 28 = .ok (.iinc 4 1, 3) := by decide +kernel
theorem dX6_commonOf_31 : decode cX6_commonOf 31 = .ok (.goto (-24), 3) := by decide +kernel
theorem dX6_commonOf_34 : decode cX6_commonOf 34 = .ok (.iload_n 2, 1) := by decide +kernel
theorem dX6_commonOf_35 : decode cX6_commonOf 35 = .ok (.ireturn, 1) := by decide +kernel
theorem dX6_signChanges_0 : decode cX6_signChanges 0 = .ok (.iconst 0, 1) := by decide +kernel
theorem dX6_signChanges_1 : decode cX6_signChanges 1 = .ok (.istore_n 1, 1) := by decide +kernel
theorem dX6_signChanges_2 : decode cX6_signChanges 2 = .ok (.iconst 0, 1) := by decide +kernel
theorem dX6_signChanges_3 : decode cX6_signChanges 3 = .ok (.istore_n 2, 1) := by decide +kernel
theorem dX6_signChanges_4 : decode cX6_signChanges 4 = .ok (.iconst 0, 1) := by decide +kernel
theorem dX6_signChanges_5 : decode cX6_signChanges 5 = .ok (.istore_n 3, 1) := by decide +kernel
theorem dX6_signChanges_6 : decode cX6_signChanges 6 = .ok (.iload_n 3, 1) := by decide +kernel
theorem dX6_signChanges_7 : decode cX6_signChanges 7 = .ok (.aload_n 0, 1) := by decide +kernel
theorem dX6_signChanges_8 : decode cX6_signChanges 8 = .ok (.getfield 18, 3) := by decide +kernel
theorem dX6_signChanges_11 : decode cX6_signChanges 11 = .ok (.if_icmp .gt 63, 3) := by decide +kernel
theorem dX6_signChanges_14 : decode cX6_signChanges 14 = .ok (.aload_n 0, 1) := by decide +kernel
theorem dX6_signChanges_15 : decode cX6_signChanges 15 = .ok (.getfield 24, 3) := by decide +kernel
theorem dX6_signChanges_18 : decode cX6_signChanges 18 = .ok (.iload_n 3, 1) := by decide +kernel
theorem dX6_signChanges_19 : decode cX6_signChanges 19 = .ok (.iaload, 1) := by decide +kernel
theorem dX6_signChanges_20 : decode cX6_signChanges 20 = .ok (.ifCond .eq 48, 3) := by decide +kernel
theorem dX6_signChanges_23 : decode cX6_signChanges 23 = .ok (.iload_n 1, 1) := by decide +kernel
theorem dX6_signChanges_24 : decode cX6_signChanges 24 = .ok (.iload_n 2, 1) := by decide +kernel
theorem dX6_signChanges_25 : decode cX6_signChanges 25 = .ok (.ifCond .eq 33, 3) := by decide +kernel
theorem dX6_signChanges_28 : decode cX6_signChanges 28 = .ok (.iload_n 2, 1) := by decide +kernel
theorem dX6_signChanges_29 : decode cX6_signChanges 29 = .ok (.ifCond .le 7, 3) := by decide +kernel
theorem dX6_signChanges_32 : decode cX6_signChanges 32 = .ok (.iconst 1, 1) := by decide +kernel
theorem dX6_signChanges_33 : decode cX6_signChanges 33 = .ok (.goto 4, 3) := by decide +kernel
theorem dX6_signChanges_36 : decode cX6_signChanges 36 = .ok (.iconst 0, 1) := by decide +kernel
theorem dX6_signChanges_37 : decode cX6_signChanges 37 = .ok (.aload_n 0, 1) := by decide +kernel
theorem dX6_signChanges_38 : decode cX6_signChanges 38 = .ok (.getfield 24, 3) := by decide +kernel
theorem dX6_signChanges_41 : decode cX6_signChanges 41 = .ok (.iload_n 3, 1) := by decide +kernel
theorem dX6_signChanges_42 : decode cX6_signChanges 42 = .ok (.iaload, 1) := by decide +kernel
theorem dX6_signChanges_43 : decode cX6_signChanges 43 = .ok (.ifCond .le 7, 3) := by decide +kernel
theorem dX6_signChanges_46 : decode cX6_signChanges 46 = .ok (.iconst 1, 1) := by decide +kernel
theorem dX6_signChanges_47 : decode cX6_signChanges 47 = .ok (.goto 4, 3) := by decide +kernel
theorem dX6_signChanges_50 : decode cX6_signChanges 50 = .ok (.iconst 0, 1) := by decide +kernel
theorem dX6_signChanges_51 : decode cX6_signChanges 51 = .ok (.if_icmp .eq 7, 3) := by decide +kernel
theorem dX6_signChanges_54 : decode cX6_signChanges 54 = .ok (.iconst 1, 1) := by decide +kernel
theorem dX6_signChanges_55 : decode cX6_signChanges 55 = .ok (.goto 4, 3) := by decide +kernel
theorem dX6_signChanges_58 : decode cX6_signChanges 58 = .ok (.iconst 0, 1) := by decide +kernel
theorem dX6_signChanges_59 : decode cX6_signChanges 59 = .ok (.iadd, 1) := by decide +kernel
theorem dX6_signChanges_60 : decode cX6_signChanges 60 = .ok (.istore_n 1, 1) := by decide +kernel
theorem dX6_signChanges_61 : decode cX6_signChanges 61 = .ok (.aload_n 0, 1) := by decide +kernel
theorem dX6_signChanges_62 : decode cX6_signChanges 62 = .ok (.getfield 24, 3) := by decide +kernel
theorem dX6_signChanges_65 : decode cX6_signChanges 65 = .ok (.iload_n 3, 1) := by decide +kernel
theorem dX6_signChanges_66 : decode cX6_signChanges 66 = .ok (.iaload, 1) := by decide +kernel
theorem dX6_signChanges_67 : decode cX6_signChanges 67 = .ok (.istore_n 2, 1) := by decide +kernel
theorem dX6_signChanges_68 : decode cX6_signChanges 68 = .ok (.iinc 3 1, 3) := by decide +kernel
theorem dX6_signChanges_71 : decode cX6_signChanges 71 = .ok (.goto (-65), 3) := by decide +kernel
theorem dX6_signChanges_74 : decode cX6_signChanges 74 = .ok (.iload_n 1, 1) := by decide +kernel
theorem dX6_signChanges_75 : decode cX6_signChanges 75 = .ok (.ireturn, 1) := by decide +kernel
theorem dX6_valueAt_0 : decode cX6_valueAt 0 = .ok (.aload_n 0, 1) := by decide +kernel
theorem dX6_valueAt_1 : decode cX6_valueAt 1 = .ok (.getfield 24, 3) := by decide +kernel
theorem dX6_valueAt_4 : decode cX6_valueAt 4 = .ok (.aload_n 0, 1) := by decide +kernel
theorem dX6_valueAt_5 : decode cX6_valueAt 5 = .ok (.getfield 18, 3) := by decide +kernel
theorem dX6_valueAt_8 : decode cX6_valueAt 8 = .ok (.iaload, 1) := by decide +kernel
theorem dX6_valueAt_9 : decode cX6_valueAt 9 = .ok (.i2l, 1) := by decide +kernel
theorem dX6_valueAt_10 : decode cX6_valueAt 10 = .ok (.lstore_n 2, 1) := by decide +kernel
theorem dX6_valueAt_11 : decode cX6_valueAt 11 = .ok (.aload_n 0, 1) := by decide +kernel
theorem dX6_valueAt_12 : decode cX6_valueAt 12 = .ok (.getfield 18, 3) := by decide +kernel
theorem dX6_valueAt_15 : decode cX6_valueAt 15 = .ok (.iconst 1, 1) := by decide +kernel
theorem dX6_valueAt_16 : decode cX6_valueAt 16 = .ok (.isub, 1) := by decide +kernel
theorem dX6_valueAt_17 : decode cX6_valueAt 17 = .ok (.istore 4, 2) := by decide +kernel
theorem dX6_valueAt_19 : decode cX6_valueAt 19 = .ok (.iload 4, 2) := by decide +kernel
theorem dX6_valueAt_21 : decode cX6_valueAt 21 = .ok (.ifCond .lt 56, 3) := by decide +kernel
theorem dX6_valueAt_24 : decode cX6_valueAt 24 = .ok (.lload_n 2, 1) := by decide +kernel
theorem dX6_valueAt_25 : decode cX6_valueAt 25 = .ok (.iload_n 1, 1) := by decide +kernel
theorem dX6_valueAt_26 : decode cX6_valueAt 26 = .ok (.i2l, 1) := by decide +kernel
theorem dX6_valueAt_27 : decode cX6_valueAt 27 = .ok (.lmul, 1) := by decide +kernel
theorem dX6_valueAt_28 : decode cX6_valueAt 28 = .ok (.lstore 5, 2) := by decide +kernel
theorem dX6_valueAt_30 : decode cX6_valueAt 30 = .ok (.lload_n 2, 1) := by decide +kernel
theorem dX6_valueAt_31 : decode cX6_valueAt 31 = .ok (.iload_n 1, 1) := by decide +kernel
theorem dX6_valueAt_32 : decode cX6_valueAt 32 = .ok (.i2l, 1) := by decide +kernel
theorem dX6_valueAt_33 : decode cX6_valueAt 33 = .ok (.invokestatic 49, 3) := by decide +kernel
theorem dX6_valueAt_36 : decode cX6_valueAt 36 = .ok (.ifCond .eq 19, 3) := by decide +kernel
theorem dX6_valueAt_39 : decode cX6_valueAt 39 = .ok (.lload 5, 2) := by decide +kernel
theorem dX6_valueAt_41 : decode cX6_valueAt 41 = .ok (.aload_n 0, 1) := by decide +kernel
theorem dX6_valueAt_42 : decode cX6_valueAt 42 = .ok (.getfield 24, 3) := by decide +kernel
theorem dX6_valueAt_45 : decode cX6_valueAt 45 = .ok (.iload 4, 2) := by decide +kernel
theorem dX6_valueAt_47 : decode cX6_valueAt 47 = .ok (.iaload, 1) := by decide +kernel
theorem dX6_valueAt_48 : decode cX6_valueAt 48 = .ok (.i2l, 1) := by decide +kernel
theorem dX6_valueAt_49 : decode cX6_valueAt 49 = .ok (.invokestatic 55, 3) := by decide +kernel
theorem dX6_valueAt_52 : decode cX6_valueAt 52 = .ok (.ifCond .ne 7, 3) := by decide +kernel
theorem dX6_valueAt_55 : decode cX6_valueAt 55 = .ok (.ldc2_w 60, 3) := by decide +kernel
theorem dX6_valueAt_58 : decode cX6_valueAt 58 = .ok (.lreturn, 1) := by decide +kernel
theorem dX6_valueAt_59 : decode cX6_valueAt 59 = .ok (.lload 5, 2) := by decide +kernel
theorem dX6_valueAt_61 : decode cX6_valueAt 61 = .ok (.aload_n 0, 1) := by decide +kernel
theorem dX6_valueAt_62 : decode cX6_valueAt 62 = .ok (.getfield 24, 3) := by decide +kernel
theorem dX6_valueAt_65 : decode cX6_valueAt 65 = .ok (.iload 4, 2) := by decide +kernel
theorem dX6_valueAt_67 : decode cX6_valueAt 67 = .ok (.iaload, 1) := by decide +kernel
theorem dX6_valueAt_68 : decode cX6_valueAt 68 = .ok (.i2l, 1) := by decide +kernel
theorem dX6_valueAt_69 : decode cX6_valueAt 69 = .ok (.ladd, 1) := by decide +kernel
theorem dX6_valueAt_70 : decode cX6_valueAt 70 = .ok (.lstore_n 2, 1) := by decide +kernel
theorem dX6_valueAt_71 : decode cX6_valueAt 71 = .ok (.iinc 4 (-1), 3) := by decide +kernel
theorem dX6_valueAt_74 : decode cX6_valueAt 74 = .ok (.goto (-55), 3) := by decide +kernel
theorem dX6_valueAt_77 : decode cX6_valueAt 77 = .ok (.lload_n 2, 1) := by decide +kernel
theorem dX6_valueAt_78 : decode cX6_valueAt 78 = .ok (.lreturn, 1) := by decide +kernel
theorem dX6_isZeroAt_0 : decode cX6_isZeroAt 0 = .ok (.lconst 0, 1) := by decide +kernel
theorem dX6_isZeroAt_1 : decode cX6_isZeroAt 1 = .ok (.lstore_n 2, 1) := by decide +kernel
theorem dX6_isZeroAt_2 : decode cX6_isZeroAt 2 = .ok (.aload_n 0, 1) := by decide +kernel
theorem dX6_isZeroAt_3 : decode cX6_isZeroAt 3 = .ok (.getfield 18, 3) := by decide +kernel
theorem dX6_isZeroAt_6 : decode cX6_isZeroAt 6 = .ok (.istore 4, 2) := by decide +kernel
theorem dX6_isZeroAt_8 : decode cX6_isZeroAt 8 = .ok (.iload 4, 2) := by decide +kernel
theorem dX6_isZeroAt_10 : decode cX6_isZeroAt 10 = .ok (.ifCond .lt 41, 3) := by decide +kernel
theorem dX6_isZeroAt_13 : decode cX6_isZeroAt 13 = .ok (.lload_n 2, 1) := by decide +kernel
theorem dX6_isZeroAt_14 : decode cX6_isZeroAt 14 = .ok (.iload_n 1, 1) := by decide +kernel
theorem dX6_isZeroAt_15 : decode cX6_isZeroAt 15 = .ok (.i2l, 1) := by decide +kernel
theorem dX6_isZeroAt_16 : decode cX6_isZeroAt 16 = .ok (.lmul, 1) := by decide +kernel
theorem dX6_isZeroAt_17 : decode cX6_isZeroAt 17 = .ok (.aload_n 0, 1) := by decide +kernel
theorem dX6_isZeroAt_18 : decode cX6_isZeroAt 18 = .ok (.getfield 24, 3) := by decide +kernel
theorem dX6_isZeroAt_21 : decode cX6_isZeroAt 21 = .ok (.iload 4, 2) := by decide +kernel
theorem dX6_isZeroAt_23 : decode cX6_isZeroAt 23 = .ok (.iaload, 1) := by decide +kernel
theorem dX6_isZeroAt_24 : decode cX6_isZeroAt 24 = .ok (.i2l, 1) := by decide +kernel
theorem dX6_isZeroAt_25 : decode cX6_isZeroAt 25 = .ok (.ladd, 1) := by decide +kernel
theorem dX6_isZeroAt_26 : decode cX6_isZeroAt 26 = .ok (.lstore_n 2, 1) := by decide +kernel
theorem dX6_isZeroAt_27 : decode cX6_isZeroAt 27 = .ok (.lload_n 2, 1) := by decide +kernel
theorem dX6_isZeroAt_28 : decode cX6_isZeroAt 28 = .ok (.ldc2_w 62, 3) := by decide +kernel
theorem dX6_isZeroAt_31 : decode cX6_isZeroAt 31 = .ok (.lcmp, 1) := by decide +kernel
theorem dX6_isZeroAt_32 : decode cX6_isZeroAt 32 = .ok (.ifCond .gt 11, 3) := by decide +kernel
theorem dX6_isZeroAt_35 : decode cX6_isZeroAt 35 = .ok (.lload_n 2, 1) := by decide +kernel
theorem dX6_isZeroAt_36 : decode cX6_isZeroAt 36 = .ok (.ldc2_w 64, 3) := by decide +kernel
theorem dX6_isZeroAt_39 : decode cX6_isZeroAt 39 = .ok (.lcmp, 1) := by decide +kernel
theorem dX6_isZeroAt_40 : decode cX6_isZeroAt 40 = .ok (.ifCond .ge 5, 3) := by decide +kernel
theorem dX6_isZeroAt_43 : decode cX6_isZeroAt 43 = .ok (.iconst 0, 1) := by decide +kernel
theorem dX6_isZeroAt_44 : decode cX6_isZeroAt 44 = .ok (.ireturn, 1) := by decide +kernel
theorem dX6_isZeroAt_45 : decode cX6_isZeroAt 45 = .ok (.iinc 4 (-1), 3) := by decide +kernel
theorem dX6_isZeroAt_48 : decode cX6_isZeroAt 48 = .ok (.goto (-40), 3) := by decide +kernel
theorem dX6_isZeroAt_51 : decode cX6_isZeroAt 51 = .ok (.lload_n 2, 1) := by decide +kernel
theorem dX6_isZeroAt_52 : decode cX6_isZeroAt 52 = .ok (.lconst 0, 1) := by decide +kernel
theorem dX6_isZeroAt_53 : decode cX6_isZeroAt 53 = .ok (.lcmp, 1) := by decide +kernel
theorem dX6_isZeroAt_54 : decode cX6_isZeroAt 54 = .ok (.ifCond .ne 7, 3) := by decide +kernel
theorem dX6_isZeroAt_57 : decode cX6_isZeroAt 57 = .ok (.iconst 1, 1) := by decide +kernel
theorem dX6_isZeroAt_58 : decode cX6_isZeroAt 58 = .ok (.goto 4, 3) := by decide +kernel
theorem dX6_isZeroAt_61 : decode cX6_isZeroAt 61 = .ok (.iconst 0, 1) := by decide +kernel
theorem dX6_isZeroAt_62 : decode cX6_isZeroAt 62 = .ok (.ireturn, 1) := by decide +kernel
theorem dX7_init_0 : decode cX7_init 0 = .ok (.aload_n 0, 1) := by decide +kernel
theorem dX7_init_1 : decode cX7_init 1 = .ok (.invokespecial 3, 3) := by decide +kernel
theorem dX7_init_4 : decode cX7_init 4 = .ok (.aload_n 0, 1) := by decide +kernel
theorem dX7_init_5 : decode cX7_init 5 = .ok (.bipush 8, 2) := by decide +kernel
theorem dX7_init_7 : decode cX7_init 7 = .ok (.anewarray 9, 3) := by decide +kernel
theorem dX7_init_10 : decode cX7_init 10 = .ok (.putfield 11, 3) := by decide +kernel
theorem dX7_init_13 : decode cX7_init 13 = .ok (.new 9, 3) := by decide +kernel
theorem dX7_init_16 : decode cX7_init 16 = .ok (.dup, 1) := by decide +kernel
theorem dX7_init_17 : decode cX7_init 17 = .ok (.iconst 1, 1) := by decide +kernel
theorem dX7_init_18 : decode cX7_init 18 = .ok (.newarray .long, 2) := by decide +kernel
theorem dX7_init_20 : decode cX7_init 20 = .ok (.dup, 1) := by decide +kernel
theorem dX7_init_21 : decode cX7_init 21 = .ok (.iconst 0, 1) := by decide +kernel
theorem dX7_init_22 : decode cX7_init 22 = .ok (.lconst 1, 1) := by decide +kernel
theorem dX7_init_23 : decode cX7_init 23 = .ok (.lastore, 1) := by decide +kernel
theorem dX7_init_24 : decode cX7_init 24 = .ok (.iconst 0, 1) := by decide +kernel
theorem dX7_init_25 : decode cX7_init 25 = .ok (.invokespecial 17, 3) := by decide +kernel
theorem dX7_init_28 : decode cX7_init 28 = .ok (.astore_n 1, 1) := by decide +kernel
theorem dX7_init_29 : decode cX7_init 29 = .ok (.iconst 0, 1) := by decide +kernel
theorem dX7_init_30 : decode cX7_init 30 = .ok (.istore_n 2, 1) := by decide +kernel
theorem dX7_init_31 : decode cX7_init 31 = .ok (.iload_n 2, 1) := by decide +kernel
theorem dX7_init_32 : decode cX7_init 32 = .ok (.bipush 8, 2) := by decide +kernel
theorem dX7_init_34 : decode cX7_init 34 = .ok (.if_icmp .ge 16, 3) := by decide +kernel
theorem dX7_init_37 : decode cX7_init 37 = .ok (.aload_n 0, 1) := by decide +kernel
theorem dX7_init_38 : decode cX7_init 38 = .ok (.getfield 11, 3) := by decide +kernel
theorem dX7_init_41 : decode cX7_init 41 = .ok (.iload_n 2, 1) := by decide +kernel
theorem dX7_init_42 : decode cX7_init 42 = .ok (.aload_n 1, 1) := by decide +kernel
theorem dX7_init_43 : decode cX7_init 43 = .ok (.aastore, 1) := by decide +kernel
theorem dX7_init_44 : decode cX7_init 44 = .ok (.iinc 2 1, 3) := by decide +kernel
theorem dX7_init_47 : decode cX7_init 47 = .ok (.goto (-16), 3) := by decide +kernel
theorem dX7_init_50 : decode cX7_init 50 = .ok (.aload_n 0, 1) := by decide +kernel
theorem dX7_init_51 : decode cX7_init 51 = .ok (.new 20, 3) := by decide +kernel
theorem dX7_init_54 : decode cX7_init 54 = .ok (.dup, 1) := by decide +kernel
theorem dX7_init_55 : decode cX7_init 55 = .ok (.iconst 0, 1) := by decide +kernel
theorem dX7_init_56 : decode cX7_init 56 = .ok (.iconst 0, 1) := by decide +kernel
theorem dX7_init_57 : decode cX7_init 57 = .ok (.iconst 0, 1) := by decide +kernel
theorem dX7_init_58 : decode cX7_init 58 = .ok (.iconst 0, 1) := by decide +kernel
theorem dX7_init_59 : decode cX7_init 59 = .ok (.iconst 0, 1) := by decide +kernel
theorem dX7_init_60 : decode cX7_init 60 = .ok (.newarray .int, 2) := by decide +kernel
theorem dX7_init_62 : decode cX7_init 62 = .ok (.invokespecial 22, 3) := by decide +kernel
theorem dX7_init_65 : decode cX7_init 65 = .ok (.putfield 25, 3) := by decide +kernel
theorem dX7_init_68 : decode cX7_init 68 = .ok (.return_, 1) := by decide +kernel
theorem dX7_init__0 : decode cX7_init_ 0 = .ok (.aload_n 0, 1) := by decide +kernel
theorem dX7_init__1 : decode cX7_init_ 1 = .ok (.invokespecial 3, 3) := by decide +kernel
theorem dX7_init__4 : decode cX7_init_ 4 = .ok (.aload_n 0, 1) := by decide +kernel
theorem dX7_init__5 : decode cX7_init_ 5 = .ok (.bipush 8, 2) := by decide +kernel
theorem dX7_init__7 : decode cX7_init_ 7 = .ok (.anewarray 9, 3) := by decide +kernel
theorem dX7_init__10 : decode cX7_init_ 10 = .ok (.putfield 11, 3) := by decide +kernel
theorem dX7_init__13 : decode cX7_init_ 13 = .ok (.iconst 0, 1) := by decide +kernel
theorem dX7_init__14 : decode cX7_init_ 14 = .ok (.istore_n 3, 1) := by decide +kernel
theorem dX7_init__15 : decode cX7_init_ 15 = .ok (.iload_n 3, 1) := by decide +kernel
theorem dX7_init__16 : decode cX7_init_ 16 = .ok (.bipush 8, 2) := by decide +kernel
theorem dX7_init__18 : decode cX7_init_ 18 = .ok (.if_icmp .ge 21, 3) := by decide +kernel
theorem dX7_init__21 : decode cX7_init_ 21 = .ok (.aload_n 0, 1) := by decide +kernel
theorem dX7_init__22 : decode cX7_init_ 22 = .ok (.getfield 11, 3) := by decide +kernel
theorem dX7_init__25 : decode cX7_init_ 25 = .ok (.iload_n 3, 1) := by decide +kernel
theorem dX7_init__26 : decode cX7_init_ 26 = .ok (.aload_n 1, 1) := by decide +kernel
theorem dX7_init__27 : decode cX7_init_ 27 = .ok (.getfield 11, 3) := by decide +kernel
theorem dX7_init__30 : decode cX7_init_ 30 = .ok (.iload_n 3, 1) := by decide +kernel
theorem dX7_init__31 : decode cX7_init_ 31 = .ok (.aaload, 1) := by decide +kernel
theorem dX7_init__32 : decode cX7_init_ 32 = .ok (.aastore, 1) := by decide +kernel
theorem dX7_init__33 : decode cX7_init_ 33 = .ok (.iinc 3 1, 3) := by decide +kernel
theorem dX7_init__36 : decode cX7_init_ 36 = .ok (.goto (-21), 3) := by decide +kernel
theorem dX7_init__39 : decode cX7_init_ 39 = .ok (.aload_n 0, 1) := by decide +kernel
theorem dX7_init__40 : decode cX7_init_ 40 = .ok (.aload_n 2, 1) := by decide +kernel
theorem dX7_init__41 : decode cX7_init_ 41 = .ok (.putfield 25, 3) := by decide +kernel
theorem dX7_init__44 : decode cX7_init_ 44 = .ok (.return_, 1) := by decide +kernel
theorem dX7_poly_0 : decode cX7_poly 0 = .ok (.aload_n 0, 1) := by decide +kernel
theorem dX7_poly_1 : decode cX7_poly 1 = .ok (.getfield 11, 3) := by decide +kernel
theorem dX7_poly_4 : decode cX7_poly 4 = .ok (.iload_n 1, 1) := by decide +kernel
theorem dX7_poly_5 : decode cX7_poly 5 = .ok (.bipush 7, 2) := by decide +kernel
theorem dX7_poly_7 : decode cX7_poly 7 = .ok (.iand, 1) := by decide +kernel
theorem dX7_poly_8 : decode cX7_poly 8 = .ok (.aaload, 1) := by decide +kernel
theorem dX7_poly_9 : decode cX7_poly 9 = .ok (.areturn, 1) := by decide +kernel
theorem dX7_withPoly_0 : decode cX7_withPoly 0 = .ok (.new 12, 3) := by decide +kernel
theorem dX7_withPoly_3 : decode cX7_withPoly 3 = .ok (.dup, 1) := by decide +kernel
theorem dX7_withPoly_4 : decode cX7_withPoly 4 = .ok (.aload_n 0, 1) := by decide +kernel
theorem dX7_withPoly_5 : decode cX7_withPoly 5 = .ok (.aload_n 0, 1) := by decide +kernel
theorem dX7_withPoly_6 : decode cX7_withPoly 6 = .ok (.getfield 25, 3) := by decide +kernel
theorem dX7_withPoly_9 : decode cX7_withPoly 9 = .ok (.invokespecial 29, 3) := by decide +kernel
theorem dX7_withPoly_12 : decode cX7_withPoly 12 = .ok (.astore_n 3, 1) := by decide +kernel
theorem dX7_withPoly_13 : decode cX7_withPoly 13 = .ok (.aload_n 3, 1) := by decide +kernel
theorem dX7_withPoly_14 : decode cX7_withPoly 14 = .ok (.getfield 11, 3) := by decide +kernel
theorem dX7_withPoly_17 : decode cX7_withPoly 17 = .ok (.iload_n 1, 1) := by decide +kernel
theorem dX7_withPoly_18 : decode cX7_withPoly 18 = .ok (.bipush 7, 2) := by decide +kernel
theorem dX7_withPoly_20 : decode cX7_withPoly 20 = .ok (.iand, 1) := by decide +kernel
theorem dX7_withPoly_21 : decode cX7_withPoly 21 = .ok (.aload_n 2, 1) := by decide +kernel
theorem dX7_withPoly_22 : decode cX7_withPoly 22 = .ok (.aastore, 1) := by decide +kernel
theorem dX7_withPoly_23 : decode cX7_withPoly 23 = .ok (.aload_n 3, 1) := by decide +kernel
theorem dX7_withPoly_24 : decode cX7_withPoly 24 = .ok (.areturn, 1) := by decide +kernel
theorem dX7_withFound_0 : decode cX7_withFound 0 = .ok (.new 12, 3) := by decide +kernel
theorem dX7_withFound_3 : decode cX7_withFound 3 = .ok (.dup, 1) := by decide +kernel
theorem dX7_withFound_4 : decode cX7_withFound 4 = .ok (.aload_n 0, 1) := by decide +kernel
theorem dX7_withFound_5 : decode cX7_withFound 5 = .ok (.aload_n 1, 1) := by decide +kernel
theorem dX7_withFound_6 : decode cX7_withFound 6 = .ok (.invokespecial 29, 3) := by decide +kernel
theorem dX7_withFound_9 : decode cX7_withFound 9 = .ok (.areturn, 1) := by decide +kernel
theorem dX7_degrees_0 : decode cX7_degrees 0 = .ok (.iconst 0, 1) := by decide +kernel
theorem dX7_degrees_1 : decode cX7_degrees 1 = .ok (.istore_n 1, 1) := by decide +kernel
theorem dX7_degrees_2 : decode cX7_degrees 2 = .ok (.iconst 0, 1) := by decide +kernel
theorem dX7_degrees_3 : decode cX7_degrees 3 = .ok (.istore_n 2, 1) := by decide +kernel
theorem dX7_degrees_4 : decode cX7_degrees 4 = .ok (.iload_n 2, 1) := by decide +kernel
theorem dX7_degrees_5 : decode cX7_degrees 5 = .ok (.bipush 8, 2) := by decide +kernel
theorem dX7_degrees_7 : decode cX7_degrees 7 = .ok (.if_icmp .ge 21, 3) := by decide +kernel
theorem dX7_degrees_10 : decode cX7_degrees 10 = .ok (.iload_n 1, 1) := by decide +kernel
theorem dX7_degrees_11 : decode cX7_degrees 11 = .ok (.aload_n 0, 1) := by decide +kernel
theorem dX7_degrees_12 : decode cX7_degrees 12 = .ok (.getfield 11, 3) := by decide +kernel
theorem dX7_degrees_15 : decode cX7_degrees 15 = .ok (.iload_n 2, 1) := by decide +kernel
theorem dX7_degrees_16 : decode cX7_degrees 16 = .ok (.aaload, 1) := by decide +kernel
theorem dX7_degrees_17 : decode cX7_degrees 17 = .ok (.getfield 32, 3) := by decide +kernel
theorem dX7_degrees_20 : decode cX7_degrees 20 = .ok (.iadd, 1) := by decide +kernel
theorem dX7_degrees_21 : decode cX7_degrees 21 = .ok (.istore_n 1, 1) := by decide +kernel
theorem dX7_degrees_22 : decode cX7_degrees 22 = .ok (.iinc 2 1, 3) := by decide +kernel
theorem dX7_degrees_25 : decode cX7_degrees 25 = .ok (.goto (-21), 3) := by decide +kernel
theorem dX7_degrees_28 : decode cX7_degrees 28 = .ok (.iload_n 1, 1) := by decide +kernel
theorem dX7_degrees_29 : decode cX7_degrees 29 = .ok (.ireturn, 1) := by decide +kernel
theorem dX8_init_0 : decode cX8_init 0 = .ok (.aload_n 0, 1) := by decide +kernel
theorem dX8_init_1 : decode cX8_init 1 = .ok (.invokespecial 3, 3) := by decide +kernel
theorem dX8_init_4 : decode cX8_init 4 = .ok (.aload_n 0, 1) := by decide +kernel
theorem dX8_init_5 : decode cX8_init 5 = .ok (.sipush 400, 3) := by decide +kernel
theorem dX8_init_8 : decode cX8_init 8 = .ok (.newarray .byte, 2) := by decide +kernel
theorem dX8_init_10 : decode cX8_init 10 = .ok (.putfield 11, 3) := by decide +kernel
theorem dX8_init_13 : decode cX8_init 13 = .ok (.aload_n 0, 1) := by decide +kernel
theorem dX8_init_14 : decode cX8_init 14 = .ok (.iconst 0, 1) := by decide +kernel
theorem dX8_init_15 : decode cX8_init 15 = .ok (.putfield 15, 3) := by decide +kernel
theorem dX8_init_18 : decode cX8_init 18 = .ok (.aload_n 0, 1) := by decide +kernel
theorem dX8_init_19 : decode cX8_init 19 = .ok (.iconst 0, 1) := by decide +kernel
theorem dX8_init_20 : decode cX8_init 20 = .ok (.putfield 19, 3) := by decide +kernel
theorem dX8_init_23 : decode cX8_init 23 = .ok (.return_, 1) := by decide +kernel
theorem dX8_hasRoom_0 : decode cX8_hasRoom 0 = .ok (.aload_n 0, 1) := by decide +kernel
theorem dX8_hasRoom_1 : decode cX8_hasRoom 1 = .ok (.getfield 15, 3) := by decide +kernel
theorem dX8_hasRoom_4 : decode cX8_hasRoom 4 = .ok (.iload_n 1, 1) := by decide +kernel
theorem dX8_hasRoom_5 : decode cX8_hasRoom 5 = .ok (.iadd, 1) := by decide +kernel
theorem dX8_hasRoom_6 : decode cX8_hasRoom 6 = .ok (.sipush 400, 3) := by decide +kernel
theorem dX8_hasRoom_9 : decode cX8_hasRoom 9 = .ok (.if_icmp .gt 7, 3) := by decide +kernel
theorem dX8_hasRoom_12 : decode cX8_hasRoom 12 = .ok (.iconst 1, 1) := by decide +kernel
theorem dX8_hasRoom_13 : decode cX8_hasRoom 13 = .ok (.goto 4, 3) := by decide +kernel
theorem dX8_hasRoom_16 : decode cX8_hasRoom 16 = .ok (.iconst 0, 1) := by decide +kernel
theorem dX8_hasRoom_17 : decode cX8_hasRoom 17 = .ok (.ireturn, 1) := by decide +kernel
theorem dX8_byteAt_0 : decode cX8_byteAt 0 = .ok (.iload_n 1, 1) := by decide +kernel
theorem dX8_byteAt_1 : decode cX8_byteAt 1 = .ok (.ifCond .lt 24, 3) := by decide +kernel
theorem dX8_byteAt_4 : decode cX8_byteAt 4 = .ok (.iload_n 1, 1) := by decide +kernel
theorem dX8_byteAt_5 : decode cX8_byteAt 5 = .ok (.aload_n 0, 1) := by decide +kernel
theorem dX8_byteAt_6 : decode cX8_byteAt 6 = .ok (.getfield 15, 3) := by decide +kernel
theorem dX8_byteAt_9 : decode cX8_byteAt 9 = .ok (.if_icmp .ge 16, 3) := by decide +kernel
theorem dX8_byteAt_12 : decode cX8_byteAt 12 = .ok (.aload_n 0, 1) := by decide +kernel
theorem dX8_byteAt_13 : decode cX8_byteAt 13 = .ok (.getfield 11, 3) := by decide +kernel
theorem dX8_byteAt_16 : decode cX8_byteAt 16 = .ok (.iload_n 1, 1) := by decide +kernel
theorem dX8_byteAt_17 : decode cX8_byteAt 17 = .ok (.baload, 1) := by decide +kernel
theorem dX8_byteAt_18 : decode cX8_byteAt 18 = .ok (.sipush 255, 3) := by decide +kernel
theorem dX8_byteAt_21 : decode cX8_byteAt 21 = .ok (.iand, 1) := by decide +kernel
theorem dX8_byteAt_22 : decode cX8_byteAt 22 = .ok (.goto 4, 3) := by decide +kernel
theorem dX8_byteAt_25 : decode cX8_byteAt 25 = .ok (.iconst (-1), 1) := by decide +kernel
theorem dX8_byteAt_26 : decode cX8_byteAt 26 = .ok (.ireturn, 1) := by decide +kernel
theorem dX8_addByte_0 : decode cX8_addByte 0 = .ok (.aload_n 0, 1) := by decide +kernel
theorem dX8_addByte_1 : decode cX8_addByte 1 = .ok (.getfield 15, 3) := by decide +kernel
theorem dX8_addByte_4 : decode cX8_addByte 4 = .ok (.sipush 400, 3) := by decide +kernel
theorem dX8_addByte_7 : decode cX8_addByte 7 = .ok (.if_icmp .ge 24, 3) := by decide +kernel
theorem dX8_addByte_10 : decode cX8_addByte 10 = .ok (.aload_n 0, 1) := by decide +kernel
theorem dX8_addByte_11 : decode cX8_addByte 11 = .ok (.getfield 11, 3) := by decide +kernel
theorem dX8_addByte_14 : decode cX8_addByte 14 = .ok (.aload_n 0, 1) := by decide +kernel
theorem dX8_addByte_15 : decode cX8_addByte 15 = .ok (.getfield 15, 3) := by decide +kernel
theorem dX8_addByte_18 : decode cX8_addByte 18 = .ok (.iload_n 1, 1) := by decide +kernel
theorem dX8_addByte_19 : decode cX8_addByte 19 = .ok (.i2b, 1) := by decide +kernel
theorem dX8_addByte_20 : decode cX8_addByte 20 = .ok (.bastore, 1) := by decide +kernel
theorem dX8_addByte_21 : decode cX8_addByte 21 = .ok (.aload_n 0, 1) := by decide +kernel
theorem dX8_addByte_22 : decode cX8_addByte 22 = .ok (.dup, 1) := by decide +kernel
theorem dX8_addByte_23 : decode cX8_addByte 23 = .ok (.getfield 15, 3) := by decide +kernel
theorem dX8_addByte_26 : decode cX8_addByte 26 = .ok (.iconst 1, 1) := by decide +kernel
theorem dX8_addByte_27 : decode cX8_addByte 27 = .ok (.iadd, 1) := by decide +kernel
theorem dX8_addByte_28 : decode cX8_addByte 28 = .ok (.putfield 15, 3) := by decide +kernel
theorem dX8_addByte_31 : decode cX8_addByte 31 = .ok (.return_, 1) := by decide +kernel
theorem dX8_addWord_0 : decode cX8_addWord 0 = .ok (.bipush 24, 2) := by decide +kernel
theorem dX8_addWord_2 : decode cX8_addWord 2 = .ok (.istore_n 2, 1) := by decide +kernel
theorem dX8_addWord_3 : decode cX8_addWord 3 = .ok (.iload_n 2, 1) := by decide +kernel
theorem dX8_addWord_4 : decode cX8_addWord 4 = .ok (.ifCond .lt 16, 3) := by decide +kernel
theorem dX8_addWord_7 : decode cX8_addWord 7 = .ok (.aload_n 0, 1) := by decide +kernel
theorem dX8_addWord_8 : decode cX8_addWord 8 = .ok (.iload_n 1, 1) := by decide +kernel
theorem dX8_addWord_9 : decode cX8_addWord 9 = .ok (.iload_n 2, 1) := by decide +kernel
theorem dX8_addWord_10 : decode cX8_addWord 10 = .ok (.iushr, 1) := by decide +kernel
theorem dX8_addWord_11 : decode cX8_addWord 11 = .ok (.invokevirtual 22, 3) := by decide +kernel
theorem dX8_addWord_14 : decode cX8_addWord 14 = .ok (.iinc 2 (-8), 3) := by decide +kernel
theorem dX8_addWord_17 : decode cX8_addWord 17 = .ok (.goto (-14), 3) := by decide +kernel
theorem dX8_addWord_20 : decode cX8_addWord 20 = .ok (.return_, 1) := by decide +kernel
theorem dX8_addNumber_0 : decode cX8_addNumber 0 = .ok (.sipush 1000, 3) := by decide +kernel
theorem dX8_addNumber_3 : decode cX8_addNumber 3 = .ok (.istore_n 2, 1) := by decide +kernel
theorem dX8_addNumber_4 : decode cX8_addNumber 4 = .ok (.iload_n 2, 1) := by decide +kernel
theorem dX8_addNumber_5 : decode cX8_addNumber 5 = .ok (.ifCond .le 34, 3) := by decide +kernel
theorem dX8_addNumber_8 : decode cX8_addNumber 8 = .ok (.iload_n 1, 1) := by decide +kernel
theorem dX8_addNumber_9 : decode cX8_addNumber 9 = .ok (.iload_n 2, 1) := by decide +kernel
theorem dX8_addNumber_10 : decode cX8_addNumber 10 = .ok (.if_icmp .ge 8, 3) := by decide +kernel
theorem dX8_addNumber_13 : decode cX8_addNumber 13 = .ok (.iload_n 2, 1) := by decide +kernel
theorem dX8_addNumber_14 : decode cX8_addNumber 14 = .ok (.iconst 1, 1) := by decide +kernel
theorem dX8_addNumber_15 : decode cX8_addNumber 15 = .ok (.if_icmp .ne 16, 3) := by decide +kernel
theorem dX8_addNumber_18 : decode cX8_addNumber 18 = .ok (.aload_n 0, 1) := by decide +kernel
theorem dX8_addNumber_19 : decode cX8_addNumber 19 = .ok (.bipush 48, 2) := by decide +kernel
theorem dX8_addNumber_21 : decode cX8_addNumber 21 = .ok (.iload_n 1, 1) := by decide +kernel
theorem dX8_addNumber_22 : decode cX8_addNumber 22 = .ok (.iload_n 2, 1) := by decide +kernel
theorem dX8_addNumber_23 : decode cX8_addNumber 23 = .ok (.idiv, 1) := by decide +kernel
theorem dX8_addNumber_24 : decode cX8_addNumber 24 = .ok (.bipush 10, 2) := by decide +kernel
theorem dX8_addNumber_26 : decode cX8_addNumber 26 = .ok (.irem, 1) := by decide +kernel
theorem dX8_addNumber_27 : decode cX8_addNumber 27 = .ok (.iadd, 1) := by decide +kernel
theorem dX8_addNumber_28 : decode cX8_addNumber 28 = .ok (.invokevirtual 22, 3) := by decide +kernel
theorem dX8_addNumber_31 : decode cX8_addNumber 31 = .ok (.iload_n 2, 1) := by decide +kernel
theorem dX8_addNumber_32 : decode cX8_addNumber 32 = .ok (.bipush 10, 2) := by decide +kernel
theorem dX8_addNumber_34 : decode cX8_addNumber 34 = .ok (.idiv, 1) := by decide +kernel
theorem dX8_addNumber_35 : decode cX8_addNumber 35 = .ok (.istore_n 2, 1) := by decide +kernel
theorem dX8_addNumber_36 : decode cX8_addNumber 36 = .ok (.goto (-32), 3) := by decide +kernel
theorem dX8_addNumber_39 : decode cX8_addNumber 39 = .ok (.return_, 1) := by decide +kernel
theorem dX8_isAt_0 : decode cX8_isAt 0 = .ok (.aload_n 0, 1) := by decide +kernel
theorem dX8_isAt_1 : decode cX8_isAt 1 = .ok (.aload_n 0, 1) := by decide +kernel
theorem dX8_isAt_2 : decode cX8_isAt 2 = .ok (.getfield 19, 3) := by decide +kernel
theorem dX8_isAt_5 : decode cX8_isAt 5 = .ok (.invokevirtual 26, 3) := by decide +kernel
theorem dX8_isAt_8 : decode cX8_isAt 8 = .ok (.iload_n 1, 1) := by decide +kernel
theorem dX8_isAt_9 : decode cX8_isAt 9 = .ok (.if_icmp .ne 7, 3) := by decide +kernel
theorem dX8_isAt_12 : decode cX8_isAt 12 = .ok (.iconst 1, 1) := by decide +kernel
theorem dX8_isAt_13 : decode cX8_isAt 13 = .ok (.goto 4, 3) := by decide +kernel
theorem dX8_isAt_16 : decode cX8_isAt 16 = .ok (.iconst 0, 1) := by decide +kernel
theorem dX8_isAt_17 : decode cX8_isAt 17 = .ok (.ireturn, 1) := by decide +kernel
theorem dX8_isAtDigit_0 : decode cX8_isAtDigit 0 = .ok (.aload_n 0, 1) := by decide +kernel
theorem dX8_isAtDigit_1 : decode cX8_isAtDigit 1 = .ok (.aload_n 0, 1) := by decide +kernel
theorem dX8_isAtDigit_2 : decode cX8_isAtDigit 2 = .ok (.getfield 19, 3) := by decide +kernel
theorem dX8_isAtDigit_5 : decode cX8_isAtDigit 5 = .ok (.invokevirtual 26, 3) := by decide +kernel
theorem dX8_isAtDigit_8 : decode cX8_isAtDigit 8 = .ok (.bipush 48, 2) := by decide +kernel
theorem dX8_isAtDigit_10 : decode cX8_isAtDigit 10 = .ok (.if_icmp .lt 20, 3) := by decide +kernel
theorem dX8_isAtDigit_13 : decode cX8_isAtDigit 13 = .ok (.aload_n 0, 1) := by decide +kernel
theorem dX8_isAtDigit_14 : decode cX8_isAtDigit 14 = .ok (.aload_n 0, 1) := by decide +kernel
theorem dX8_isAtDigit_15 : decode cX8_isAtDigit 15 = .ok (.getfield 19, 3) := by decide +kernel
theorem dX8_isAtDigit_18 : decode cX8_isAtDigit 18 = .ok (.invokevirtual 26, 3) := by decide +kernel
theorem dX8_isAtDigit_21 : decode cX8_isAtDigit 21 = .ok (.bipush 57, 2) := by decide +kernel
theorem dX8_isAtDigit_23 : decode cX8_isAtDigit 23 = .ok (.if_icmp .gt 7, 3) := by decide +kernel
theorem dX8_isAtDigit_26 : decode cX8_isAtDigit 26 = .ok (.iconst 1, 1) := by decide +kernel
theorem dX8_isAtDigit_27 : decode cX8_isAtDigit 27 = .ok (.goto 4, 3) := by decide +kernel
theorem dX8_isAtDigit_30 : decode cX8_isAtDigit 30 = .ok (.iconst 0, 1) := by decide +kernel
theorem dX8_isAtDigit_31 : decode cX8_isAtDigit 31 = .ok (.ireturn, 1) := by decide +kernel
theorem dX8_skipBlanks_0 : decode cX8_skipBlanks 0 = .ok (.aload_n 0, 1) := by decide +kernel
theorem dX8_skipBlanks_1 : decode cX8_skipBlanks 1 = .ok (.getfield 19, 3) := by decide +kernel
theorem dX8_skipBlanks_4 : decode cX8_skipBlanks 4 = .ok (.aload_n 0, 1) := by decide +kernel
theorem dX8_skipBlanks_5 : decode cX8_skipBlanks 5 = .ok (.getfield 15, 3) := by decide +kernel
theorem dX8_skipBlanks_8 : decode cX8_skipBlanks 8 = .ok (.if_icmp .ge 25, 3) := by decide +kernel
theorem dX8_skipBlanks_11 : decode cX8_skipBlanks 11 = .ok (.aload_n 0, 1) := by decide +kernel
theorem dX8_skipBlanks_12 : decode cX8_skipBlanks 12 = .ok (.bipush 32, 2) := by decide +kernel
theorem dX8_skipBlanks_14 : decode cX8_skipBlanks 14 = .ok (.invokevirtual 30, 3) := by decide +kernel
theorem dX8_skipBlanks_17 : decode cX8_skipBlanks 17 = .ok (.ifCond .eq 16, 3) := by decide +kernel
theorem dX8_skipBlanks_20 : decode cX8_skipBlanks 20 = .ok (.aload_n 0, 1) := by decide +kernel
theorem dX8_skipBlanks_21 : decode cX8_skipBlanks 21 = .ok (.dup, 1) := by decide +kernel
theorem dX8_skipBlanks_22 : decode cX8_skipBlanks 22 = .ok (.getfield 19, 3) := by decide +kernel
theorem dX8_skipBlanks_25 : decode cX8_skipBlanks 25 = .ok (.iconst 1, 1) := by decide +kernel
theorem dX8_skipBlanks_26 : decode cX8_skipBlanks 26 = .ok (.iadd, 1) := by decide +kernel
theorem dX8_skipBlanks_27 : decode cX8_skipBlanks 27 = .ok (.putfield 19, 3) := by decide +kernel
theorem dX8_skipBlanks_30 : decode cX8_skipBlanks 30 = .ok (.goto (-30), 3) := by decide +kernel
theorem dX8_skipBlanks_33 : decode cX8_skipBlanks 33 = .ok (.return_, 1) := by decide +kernel
theorem dX8_skips_0 : decode cX8_skips 0 = .ok (.aload_n 0, 1) := by decide +kernel
theorem dX8_skips_1 : decode cX8_skips 1 = .ok (.iload_n 1, 1) := by decide +kernel
theorem dX8_skips_2 : decode cX8_skips 2 = .ok (.invokevirtual 30, 3) := by decide +kernel
theorem dX8_skips_5 : decode cX8_skips 5 = .ok (.istore_n 2, 1) := by decide +kernel
theorem dX8_skips_6 : decode cX8_skips 6 = .ok (.aload_n 0, 1) := by decide +kernel
theorem dX8_skips_7 : decode cX8_skips 7 = .ok (.dup, 1) := by decide +kernel
theorem dX8_skips_8 : decode cX8_skips 8 = .ok (.getfield 19, 3) := by decide +kernel
theorem dX8_skips_11 : decode cX8_skips 11 = .ok (.iload_n 2, 1) := by decide +kernel
theorem dX8_skips_12 : decode cX8_skips 12 = .ok (.ifCond .eq 7, 3) := by decide +kernel
theorem dX8_skips_15 : decode cX8_skips 15 = .ok (.iconst 1, 1) := by decide +kernel
theorem dX8_skips_16 : decode cX8_skips 16 = .ok (.goto 4, 3) := by decide +kernel
theorem dX8_skips_19 : decode cX8_skips 19 = .ok (.iconst 0, 1) := by decide +kernel
theorem dX8_skips_20 : decode cX8_skips 20 = .ok (.iadd, 1) := by decide +kernel
theorem dX8_skips_21 : decode cX8_skips 21 = .ok (.putfield 19, 3) := by decide +kernel
theorem dX8_skips_24 : decode cX8_skips 24 = .ok (.iload_n 2, 1) := by decide +kernel
theorem dX8_skips_25 : decode cX8_skips 25 = .ok (.ireturn, 1) := by decide +kernel
theorem dX8_takeNumber_0 : decode cX8_takeNumber 0 = .ok (.iconst 0, 1) := by decide +kernel
theorem dX8_takeNumber_1 : decode cX8_takeNumber 1 = .ok (.istore_n 1, 1) := by decide +kernel
theorem dX8_takeNumber_2 : decode cX8_takeNumber 2 = .ok (.aload_n 0, 1) := by decide +kernel
theorem dX8_takeNumber_3 : decode cX8_takeNumber 3 = .ok (.getfield 19, 3) := by decide +kernel
theorem dX8_takeNumber_6 : decode cX8_takeNumber 6 = .ok (.aload_n 0, 1) := by decide +kernel
theorem dX8_takeNumber_7 : decode cX8_takeNumber 7 = .ok (.getfield 15, 3) := by decide +kernel
theorem dX8_takeNumber_10 : decode cX8_takeNumber 10 = .ok (.if_icmp .ge 46, 3) := by decide +kernel
theorem dX8_takeNumber_13 : decode cX8_takeNumber 13 = .ok (.aload_n 0, 1) := by decide +kernel
theorem dX8_takeNumber_14 : decode cX8_takeNumber 14 = .ok (.invokevirtual 34, 3) := by decide +kernel
theorem dX8_takeNumber_17 : decode cX8_takeNumber 17 = .ok (.ifCond .eq 39, 3) := by decide +kernel
theorem dX8_takeNumber_20 : decode cX8_takeNumber 20 = .ok (.iload_n 1, 1) := by decide +kernel
theorem dX8_takeNumber_21 : decode cX8_takeNumber 21 = .ok (.bipush 10, 2) := by decide +kernel
theorem dX8_takeNumber_23 : decode cX8_takeNumber 23 = .ok (.imul, 1) := by decide +kernel
theorem dX8_takeNumber_24 : decode cX8_takeNumber 24 = .ok (.aload_n 0, 1) := by decide +kernel
theorem dX8_takeNumber_25 : decode cX8_takeNumber 25 = .ok (.aload_n 0, 1) := by decide +kernel
theorem dX8_takeNumber_26 : decode cX8_takeNumber 26 = .ok (.getfield 19, 3) := by decide +kernel
theorem dX8_takeNumber_29 : decode cX8_takeNumber 29 = .ok (.invokevirtual 26, 3) := by decide +kernel
theorem dX8_takeNumber_32 : decode cX8_takeNumber 32 = .ok (.iadd, 1) := by decide +kernel
theorem dX8_takeNumber_33 : decode cX8_takeNumber 33 = .ok (.bipush 48, 2) := by decide +kernel
theorem dX8_takeNumber_35 : decode cX8_takeNumber 35 = .ok (.isub, 1) := by decide +kernel
theorem dX8_takeNumber_36 : decode cX8_takeNumber 36 = .ok (.sipush 10000, 3) := by decide +kernel
theorem dX8_takeNumber_39 : decode cX8_takeNumber 39 = .ok (.invokestatic 38, 3) := by decide +kernel
theorem dX8_takeNumber_42 : decode cX8_takeNumber 42 = .ok (.istore_n 1, 1) := by decide +kernel
theorem dX8_takeNumber_43 : decode cX8_takeNumber 43 = .ok (.aload_n 0, 1) := by decide +kernel
theorem dX8_takeNumber_44 : decode cX8_takeNumber 44 = .ok (.dup, 1) := by decide +kernel
theorem dX8_takeNumber_45 : decode cX8_takeNumber 45 = .ok (.getfield 19, 3) := by decide +kernel
theorem dX8_takeNumber_48 : decode cX8_takeNumber 48 = .ok (.iconst 1, 1) := by decide +kernel
theorem dX8_takeNumber_49 : decode cX8_takeNumber 49 = .ok (.iadd, 1) := by decide +kernel
theorem dX8_takeNumber_50 : decode cX8_takeNumber 50 = .ok (.putfield 19, 3) := by decide +kernel
theorem dX8_takeNumber_53 : decode cX8_takeNumber 53 = .ok (.goto (-51), 3) := by decide +kernel
theorem dX8_takeNumber_56 : decode cX8_takeNumber 56 = .ok (.iload_n 1, 1) := by decide +kernel
theorem dX8_takeNumber_57 : decode cX8_takeNumber 57 = .ok (.ireturn, 1) := by decide +kernel
theorem dX9_parse_0 : decode cX9_parse 0 = .ok (.aload_n 1, 1) := by decide +kernel
theorem dX9_parse_1 : decode cX9_parse 1 = .ok (.lconst 0, 1) := by decide +kernel
theorem dX9_parse_2 : decode cX9_parse 2 = .ok (.invokestatic 9, 3) := by decide +kernel
theorem dX9_parse_5 : decode cX9_parse 5 = .ok (.aload_n 0, 1) := by decide +kernel
theorem dX9_parse_6 : decode cX9_parse 6 = .ok (.iconst 0, 1) := by decide +kernel
theorem dX9_parse_7 : decode cX9_parse 7 = .ok (.putfield 15, 3) := by decide +kernel
theorem dX9_parse_10 : decode cX9_parse 10 = .ok (.aload_n 0, 1) := by decide +kernel
theorem dX9_parse_11 : decode cX9_parse 11 = .ok (.invokevirtual 21, 3) := by decide +kernel
theorem dX9_parse_14 : decode cX9_parse 14 = .ok (.aload_n 0, 1) := by decide +kernel
theorem dX9_parse_15 : decode cX9_parse 15 = .ok (.bipush 45, 2) := by decide +kernel
theorem dX9_parse_17 : decode cX9_parse 17 = .ok (.invokevirtual 24, 3) := by decide +kernel
theorem dX9_parse_20 : decode cX9_parse 20 = .ok (.istore_n 2, 1) := by decide +kernel
theorem dX9_parse_21 : decode cX9_parse 21 = .ok (.iload_n 2, 1) := by decide +kernel
theorem dX9_parse_22 : decode cX9_parse 22 = .ok (.ifCond .ne 10, 3) := by decide +kernel
theorem dX9_parse_25 : decode cX9_parse 25 = .ok (.aload_n 0, 1) := by decide +kernel
theorem dX9_parse_26 : decode cX9_parse 26 = .ok (.bipush 43, 2) := by decide +kernel
theorem dX9_parse_28 : decode cX9_parse 28 = .ok (.invokevirtual 24, 3) := by decide +kernel
theorem dX9_parse_31 : decode cX9_parse 31 = .ok (.pop, 1) := by decide +kernel
theorem dX9_parse_32 : decode cX9_parse 32 = .ok (.iconst 1, 1) := by decide +kernel
theorem dX9_parse_33 : decode cX9_parse 33 = .ok (.istore_n 3, 1) := by decide +kernel
theorem dX9_parse_34 : decode cX9_parse 34 = .ok (.iconst 0, 1) := by decide +kernel
theorem dX9_parse_35 : decode cX9_parse 35 = .ok (.istore 4, 2) := by decide +kernel
theorem dX9_parse_37 : decode cX9_parse 37 = .ok (.iload_n 3, 1) := by decide +kernel
theorem dX9_parse_38 : decode cX9_parse 38 = .ok (.ifCond .eq 60, 3) := by decide +kernel
theorem dX9_parse_41 : decode cX9_parse 41 = .ok (.iload 4, 2) := by decide +kernel
theorem dX9_parse_43 : decode cX9_parse 43 = .ok (.sipush 400, 3) := by decide +kernel
theorem dX9_parse_46 : decode cX9_parse 46 = .ok (.if_icmp .gt 52, 3) := by decide +kernel
theorem dX9_parse_49 : decode cX9_parse 49 = .ok (.aload_n 0, 1) := by decide +kernel
theorem dX9_parse_50 : decode cX9_parse 50 = .ok (.iload_n 2, 1) := by decide +kernel
theorem dX9_parse_51 : decode cX9_parse 51 = .ok (.aload_n 1, 1) := by decide +kernel
theorem dX9_parse_52 : decode cX9_parse 52 = .ok (.invokestatic 28, 3) := by decide +kernel
theorem dX9_parse_55 : decode cX9_parse 55 = .ok (.istore 5, 2) := by decide +kernel
theorem dX9_parse_57 : decode cX9_parse 57 = .ok (.iload 5, 2) := by decide +kernel
theorem dX9_parse_59 : decode cX9_parse 59 = .ok (.iconst (-1), 1) := by decide +kernel
theorem dX9_parse_60 : decode cX9_parse 60 = .ok (.if_icmp .eq 6, 3) := by decide +kernel
theorem dX9_parse_63 : decode cX9_parse 63 = .ok (.iload 5, 2) := by decide +kernel
theorem dX9_parse_65 : decode cX9_parse 65 = .ok (.ireturn, 1) := by decide +kernel
theorem dX9_parse_66 : decode cX9_parse 66 = .ok (.aload_n 0, 1) := by decide +kernel
theorem dX9_parse_67 : decode cX9_parse 67 = .ok (.bipush 45, 2) := by decide +kernel
theorem dX9_parse_69 : decode cX9_parse 69 = .ok (.invokevirtual 24, 3) := by decide +kernel
theorem dX9_parse_72 : decode cX9_parse 72 = .ok (.istore_n 2, 1) := by decide +kernel
theorem dX9_parse_73 : decode cX9_parse 73 = .ok (.iload_n 2, 1) := by decide +kernel
theorem dX9_parse_74 : decode cX9_parse 74 = .ok (.ifCond .ne 12, 3) := by decide +kernel
theorem dX9_parse_77 : decode cX9_parse 77 = .ok (.aload_n 0, 1) := by decide +kernel
theorem dX9_parse_78 : decode cX9_parse 78 = .ok (.bipush 43, 2) := by decide +kernel
theorem dX9_parse_80 : decode cX9_parse 80 = .ok (.invokevirtual 24, 3) := by decide +kernel
theorem dX9_parse_83 : decode cX9_parse 83 = .ok (.ifCond .eq 7, 3) := by decide +kernel
theorem dX9_parse_86 : decode cX9_parse 86 = .ok (.iconst 1, 1) := by decide +kernel
theorem dX9_parse_87 : decode cX9_parse 87 = .ok (.goto 4, 3) := by decide +kernel
theorem dX9_parse_90 : decode cX9_parse 90 = .ok (.iconst 0, 1) := by decide +kernel
theorem dX9_parse_91 : decode cX9_parse 91 = .ok (.istore_n 3, 1) := by decide +kernel
theorem dX9_parse_92 : decode cX9_parse 92 = .ok (.iinc 4 1, 3) := by decide +kernel
theorem dX9_parse_95 : decode cX9_parse 95 = .ok (.goto (-58), 3) := by decide +kernel
theorem dX9_parse_98 : decode cX9_parse 98 = .ok (.aload_n 0, 1) := by decide +kernel
theorem dX9_parse_99 : decode cX9_parse 99 = .ok (.getfield 15, 3) := by decide +kernel
theorem dX9_parse_102 : decode cX9_parse 102 = .ok (.aload_n 0, 1) := by decide +kernel
theorem dX9_parse_103 : decode cX9_parse 103 = .ok (.getfield 34, 3) := by decide +kernel
theorem dX9_parse_106 : decode cX9_parse 106 = .ok (.if_icmp .ge 8, 3) := by decide +kernel
theorem dX9_parse_109 : decode cX9_parse 109 = .ok (.aload_n 0, 1) := by decide +kernel
theorem dX9_parse_110 : decode cX9_parse 110 = .ok (.getfield 15, 3) := by decide +kernel
theorem dX9_parse_113 : decode cX9_parse 113 = .ok (.ireturn, 1) := by decide +kernel
theorem dX9_parse_114 : decode cX9_parse 114 = .ok (.aload_n 1, 1) := by decide +kernel
theorem dX9_parse_115 : decode cX9_parse 115 = .ok (.aload_n 1, 1) := by decide +kernel
theorem dX9_parse_116 : decode cX9_parse 116 = .ok (.invokestatic 37, 3) := by decide +kernel
theorem dX9_parse_119 : decode cX9_parse 119 = .ok (.invokestatic 43, 3) := by decide +kernel
theorem dX9_parse_122 : decode cX9_parse 122 = .ok (.ifCond .eq 7, 3) := by decide +kernel
theorem dX9_parse_125 : decode cX9_parse 125 = .ok (.iconst (-1), 1) := by decide +kernel
theorem dX9_parse_126 : decode cX9_parse 126 = .ok (.goto 5, 3) := by decide +kernel
theorem dX9_parse_129 : decode cX9_parse 129 = .ok (.bipush (-2), 2) := by decide +kernel
theorem dX9_parse_131 : decode cX9_parse 131 = .ok (.ireturn, 1) := by decide +kernel
theorem dX9_parseTerm_0 : decode cX9_parseTerm 0 = .ok (.aload_n 0, 1) := by decide +kernel
theorem dX9_parseTerm_1 : decode cX9_parseTerm 1 = .ok (.invokevirtual 21, 3) := by decide +kernel
theorem dX9_parseTerm_4 : decode cX9_parseTerm 4 = .ok (.aload_n 0, 1) := by decide +kernel
theorem dX9_parseTerm_5 : decode cX9_parseTerm 5 = .ok (.getfield 15, 3) := by decide +kernel
theorem dX9_parseTerm_8 : decode cX9_parseTerm 8 = .ok (.istore_n 3, 1) := by decide +kernel
theorem dX9_parseTerm_9 : decode cX9_parseTerm 9 = .ok (.aload_n 0, 1) := by decide +kernel
theorem dX9_parseTerm_10 : decode cX9_parseTerm 10 = .ok (.invokevirtual 47, 3) := by decide +kernel
theorem dX9_parseTerm_13 : decode cX9_parseTerm 13 = .ok (.istore 4, 2) := by decide +kernel
theorem dX9_parseTerm_15 : decode cX9_parseTerm 15 = .ok (.iload 4, 2) := by decide +kernel
theorem dX9_parseTerm_17 : decode cX9_parseTerm 17 = .ok (.ifCond .eq 10, 3) := by decide +kernel
theorem dX9_parseTerm_20 : decode cX9_parseTerm 20 = .ok (.aload_n 0, 1) := by decide +kernel
theorem dX9_parseTerm_21 : decode cX9_parseTerm 21 = .ok (.invokevirtual 51, 3) := by decide +kernel
theorem dX9_parseTerm_24 : decode cX9_parseTerm 24 = .ok (.goto 4, 3) := by decide +kernel
theorem dX9_parseTerm_27 : decode cX9_parseTerm 27 = .ok (.iconst 1, 1) := by decide +kernel
theorem dX9_parseTerm_28 : decode cX9_parseTerm 28 = .ok (.istore 5, 2) := by decide +kernel
theorem dX9_parseTerm_30 : decode cX9_parseTerm 30 = .ok (.iload 5, 2) := by decide +kernel
theorem dX9_parseTerm_32 : decode cX9_parseTerm 32 = .ok (.sipush 9999, 3) := by decide +kernel
theorem dX9_parseTerm_35 : decode cX9_parseTerm 35 = .ok (.if_icmp .le 5, 3) := by decide +kernel
theorem dX9_parseTerm_38 : decode cX9_parseTerm 38 = .ok (.iload_n 3, 1) := by decide +kernel
theorem dX9_parseTerm_39 : decode cX9_parseTerm 39 = .ok (.ireturn, 1) := by decide +kernel
theorem dX9_parseTerm_40 : decode cX9_parseTerm 40 = .ok (.aload_n 0, 1) := by decide +kernel
theorem dX9_parseTerm_41 : decode cX9_parseTerm 41 = .ok (.invokevirtual 21, 3) := by decide +kernel
theorem dX9_parseTerm_44 : decode cX9_parseTerm 44 = .ok (.iconst 0, 1) := by decide +kernel
theorem dX9_parseTerm_45 : decode cX9_parseTerm 45 = .ok (.istore 6, 2) := by decide +kernel
theorem dX9_parseTerm_47 : decode cX9_parseTerm 47 = .ok (.aload_n 0, 1) := by decide +kernel
theorem dX9_parseTerm_48 : decode cX9_parseTerm 48 = .ok (.bipush 120, 2) := by decide +kernel
theorem dX9_parseTerm_50 : decode cX9_parseTerm 50 = .ok (.invokevirtual 24, 3) := by decide +kernel
theorem dX9_parseTerm_53 : decode cX9_parseTerm 53 = .ok (.ifCond .eq 52, 3) := by decide +kernel
theorem dX9_parseTerm_56 : decode cX9_parseTerm 56 = .ok (.aload_n 0, 1) := by decide +kernel
theorem dX9_parseTerm_57 : decode cX9_parseTerm 57 = .ok (.invokevirtual 21, 3) := by decide +kernel
theorem dX9_parseTerm_60 : decode cX9_parseTerm 60 = .ok (.iconst 1, 1) := by decide +kernel
theorem dX9_parseTerm_61 : decode cX9_parseTerm 61 = .ok (.istore 6, 2) := by decide +kernel
theorem dX9_parseTerm_63 : decode cX9_parseTerm 63 = .ok (.aload_n 0, 1) := by decide +kernel
theorem dX9_parseTerm_64 : decode cX9_parseTerm 64 = .ok (.bipush 94, 2) := by decide +kernel
theorem dX9_parseTerm_66 : decode cX9_parseTerm 66 = .ok (.invokevirtual 24, 3) := by decide +kernel
theorem dX9_parseTerm_69 : decode cX9_parseTerm 69 = .ok (.ifCond .eq 46, 3) := by decide +kernel
theorem dX9_parseTerm_72 : decode cX9_parseTerm 72 = .ok (.aload_n 0, 1) := by decide +kernel
theorem dX9_parseTerm_73 : decode cX9_parseTerm 73 = .ok (.invokevirtual 21, 3) := by decide +kernel
theorem dX9_parseTerm_76 : decode cX9_parseTerm 76 = .ok (.aload_n 0, 1) := by decide +kernel
theorem dX9_parseTerm_77 : decode cX9_parseTerm 77 = .ok (.getfield 15, 3) := by decide +kernel
theorem dX9_parseTerm_80 : decode cX9_parseTerm 80 = .ok (.istore_n 3, 1) := by decide +kernel
theorem dX9_parseTerm_81 : decode cX9_parseTerm 81 = .ok (.aload_n 0, 1) := by decide +kernel
theorem dX9_parseTerm_82 : decode cX9_parseTerm 82 = .ok (.invokevirtual 47, 3) := by decide +kernel
theorem dX9_parseTerm_85 : decode cX9_parseTerm 85 = .ok (.ifCond .eq 10, 3) := by decide +kernel
theorem dX9_parseTerm_88 : decode cX9_parseTerm 88 = .ok (.aload_n 0, 1) := by decide +kernel
theorem dX9_parseTerm_89 : decode cX9_parseTerm 89 = .ok (.invokevirtual 51, 3) := by decide +kernel
theorem dX9_parseTerm_92 : decode cX9_parseTerm 92 = .ok (.goto 4, 3) := by decide +kernel
theorem dX9_parseTerm_95 : decode cX9_parseTerm 95 = .ok (.iconst (-1), 1) := by decide +kernel
theorem dX9_parseTerm_96 : decode cX9_parseTerm 96 = .ok (.istore 6, 2) := by decide +kernel
theorem dX9_parseTerm_98 : decode cX9_parseTerm 98 = .ok (.aload_n 0, 1) := by decide +kernel
theorem dX9_parseTerm_99 : decode cX9_parseTerm 99 = .ok (.invokevirtual 21, 3) := by decide +kernel
theorem dX9_parseTerm_102 : decode cX9_parseTerm 102 = .ok (.goto 13, 3) := by decide +kernel
theorem dX9_parseTerm_105 : decode cX9_parseTerm 105 = .ok (.iload 4, 2) := by decide +kernel
theorem dX9_parseTerm_107 : decode cX9_parseTerm 107 = .ok (.ifCond .ne 8, 3) := by decide +kernel
theorem dX9_parseTerm_110 : decode cX9_parseTerm 110 = .ok (.aload_n 0, 1) := by decide +kernel
theorem dX9_parseTerm_111 : decode cX9_parseTerm 111 = .ok (.getfield 15, 3) := by decide +kernel
theorem dX9_parseTerm_114 : decode cX9_parseTerm 114 = .ok (.ireturn, 1) := by decide +kernel
theorem dX9_parseTerm_115 : decode cX9_parseTerm 115 = .ok (.iload 6, 2) := by decide +kernel
theorem dX9_parseTerm_117 : decode cX9_parseTerm 117 = .ok (.ifCond .lt 17, 3) := by decide +kernel
theorem dX9_parseTerm_120 : decode cX9_parseTerm 120 = .ok (.iload 6, 2) := by decide +kernel
theorem dX9_parseTerm_122 : decode cX9_parseTerm 122 = .ok (.bipush 12, 2) := by decide +kernel
theorem dX9_parseTerm_124 : decode cX9_parseTerm 124 = .ok (.if_icmp .gt 10, 3) := by decide +kernel
theorem dX9_parseTerm_127 : decode cX9_parseTerm 127 = .ok (.iload 6, 2) := by decide +kernel
theorem dX9_parseTerm_129 : decode cX9_parseTerm 129 = .ok (.aload_n 2, 1) := by decide +kernel
theorem dX9_parseTerm_130 : decode cX9_parseTerm 130 = .ok (.arraylength, 1) := by decide +kernel
theorem dX9_parseTerm_131 : decode cX9_parseTerm 131 = .ok (.if_icmp .lt 5, 3) := by decide +kernel
theorem dX9_parseTerm_134 : decode cX9_parseTerm 134 = .ok (.iload_n 3, 1) := by decide +kernel
theorem dX9_parseTerm_135 : decode cX9_parseTerm 135 = .ok (.ireturn, 1) := by decide +kernel
theorem dX9_parseTerm_136 : decode cX9_parseTerm 136 = .ok (.aload_n 2, 1) := by decide +kernel
theorem dX9_parseTerm_137 : decode cX9_parseTerm 137 = .ok (.iload 6, 2) := by decide +kernel
theorem dX9_parseTerm_139 : decode cX9_parseTerm 139 = .ok (.dup2, 1) := by decide +kernel
theorem dX9_parseTerm_140 : decode cX9_parseTerm 140 = .ok (.laload, 1) := by decide +kernel
theorem dX9_parseTerm_141 : decode cX9_parseTerm 141 = .ok (.iload_n 1, 1) := by decide +kernel
theorem dX9_parseTerm_142 : decode cX9_parseTerm 142 = .ok (.ifCond .eq 10, 3) := by decide +kernel
theorem dX9_parseTerm_145 : decode cX9_parseTerm 145 = .ok (.iload 5, 2) := by decide +kernel
theorem dX9_parseTerm_147 : decode cX9_parseTerm 147 = .ok (.ineg, 1) := by decide +kernel
theorem dX9_parseTerm_148 : decode cX9_parseTerm 148 = .ok (.i2l, 1) := by decide +kernel
theorem dX9_parseTerm_149 : decode cX9_parseTerm 149 = .ok (.goto 6, 3) := by decide +kernel
theorem dX9_parseTerm_152 : decode cX9_parseTerm 152 = .ok (.iload 5, 2) := by decide +kernel
theorem dX9_parseTerm_154 : decode cX9_parseTerm 154 = .ok (.i2l, 1) := by decide +kernel
theorem dX9_parseTerm_155 : decode cX9_parseTerm 155 = .ok (.ladd, 1) := by decide +kernel
theorem dX9_parseTerm_156 : decode cX9_parseTerm 156 = .ok (.lastore, 1) := by decide +kernel
theorem dX9_parseTerm_157 : decode cX9_parseTerm 157 = .ok (.iconst (-1), 1) := by decide +kernel
theorem dX9_parseTerm_158 : decode cX9_parseTerm 158 = .ok (.ireturn, 1) := by decide +kernel
theorem dX9_write_0 : decode cX9_write 0 = .ok (.aload_n 1, 1) := by decide +kernel
theorem dX9_write_1 : decode cX9_write 1 = .ok (.iconst 0, 1) := by decide +kernel
theorem dX9_write_2 : decode cX9_write 2 = .ok (.putfield 34, 3) := by decide +kernel
theorem dX9_write_5 : decode cX9_write 5 = .ok (.aload_n 0, 1) := by decide +kernel
theorem dX9_write_6 : decode cX9_write 6 = .ok (.getfield 55, 3) := by decide +kernel
theorem dX9_write_9 : decode cX9_write 9 = .ok (.istore_n 2, 1) := by decide +kernel
theorem dX9_write_10 : decode cX9_write 10 = .ok (.iload_n 2, 1) := by decide +kernel
theorem dX9_write_11 : decode cX9_write 11 = .ok (.ifCond .lt 29, 3) := by decide +kernel
theorem dX9_write_14 : decode cX9_write 14 = .ok (.aload_n 0, 1) := by decide +kernel
theorem dX9_write_15 : decode cX9_write 15 = .ok (.getfield 58, 3) := by decide +kernel
theorem dX9_write_18 : decode cX9_write 18 = .ok (.iload_n 2, 1) := by decide +kernel
theorem dX9_write_19 : decode cX9_write 19 = .ok (.iaload, 1) := by decide +kernel
theorem dX9_write_20 : decode cX9_write 20 = .ok (.ifCond .eq 14, 3) := by decide +kernel
theorem dX9_write_23 : decode cX9_write 23 = .ok (.aload_n 0, 1) := by decide +kernel
theorem dX9_write_24 : decode cX9_write 24 = .ok (.getfield 58, 3) := by decide +kernel
theorem dX9_write_27 : decode cX9_write 27 = .ok (.iload_n 2, 1) := by decide +kernel
theorem dX9_write_28 : decode cX9_write 28 = .ok (.iaload, 1) := by decide +kernel
theorem dX9_write_29 : decode cX9_write 29 = .ok (.iload_n 2, 1) := by decide +kernel
theorem dX9_write_30 : decode cX9_write 30 = .ok (.aload_n 1, 1) := by decide +kernel
theorem dX9_write_31 : decode cX9_write 31 = .ok (.invokestatic 62, 3) := by decide +kernel
theorem dX9_write_34 : decode cX9_write 34 = .ok (.iinc 2 (-1), 3) := by decide +kernel
theorem dX9_write_37 : decode cX9_write 37 = .ok (.goto (-27), 3) := by decide +kernel
theorem dX9_write_40 : decode cX9_write 40 = .ok (.return_, 1) := by decide +kernel
theorem dX9_writeTerm_0 : decode cX9_writeTerm 0 = .ok (.iload_n 0, 1) := by decide +kernel
theorem dX9_writeTerm_1 : decode cX9_writeTerm 1 = .ok (.invokestatic 66, 3) := by decide +kernel
theorem dX9_writeTerm_4 : decode cX9_writeTerm 4 = .ok (.istore_n 3, 1) := by decide +kernel
theorem dX9_writeTerm_5 : decode cX9_writeTerm 5 = .ok (.iload_n 0, 1) := by decide +kernel
theorem dX9_writeTerm_6 : decode cX9_writeTerm 6 = .ok (.ifCond .ge 12, 3) := by decide +kernel
theorem dX9_writeTerm_9 : decode cX9_writeTerm 9 = .ok (.aload_n 2, 1) := by decide +kernel
theorem dX9_writeTerm_10 : decode cX9_writeTerm 10 = .ok (.bipush 45, 2) := by decide +kernel
theorem dX9_writeTerm_12 : decode cX9_writeTerm 12 = .ok (.invokevirtual 72, 3) := by decide +kernel
theorem dX9_writeTerm_15 : decode cX9_writeTerm 15 = .ok (.goto 16, 3) := by decide +kernel
theorem dX9_writeTerm_18 : decode cX9_writeTerm 18 = .ok (.aload_n 2, 1) := by decide +kernel
theorem dX9_writeTerm_19 : decode cX9_writeTerm 19 = .ok (.getfield 34, 3) := by decide +kernel
theorem dX9_writeTerm_22 : decode cX9_writeTerm 22 = .ok (.ifCond .le 9, 3) := by decide +kernel
theorem dX9_writeTerm_25 : decode cX9_writeTerm 25 = .ok (.aload_n 2, 1) := by decide +kernel
theorem dX9_writeTerm_26 : decode cX9_writeTerm 26 = .ok (.bipush 43, 2) := by decide +kernel
theorem dX9_writeTerm_28 : decode cX9_writeTerm 28 = .ok (.invokevirtual 72, 3) := by decide +kernel
theorem dX9_writeTerm_31 : decode cX9_writeTerm 31 = .ok (.iload_n 3, 1) := by decide +kernel
theorem dX9_writeTerm_32 : decode cX9_writeTerm 32 = .ok (.iconst 1, 1) := by decide +kernel
theorem dX9_writeTerm_33 : decode cX9_writeTerm 33 = .ok (.if_icmp .ne 7, 3) := by decide +kernel
theorem dX9_writeTerm_36 : decode cX9_writeTerm 36 = .ok (.iload_n 1, 1) := by decide +kernel
theorem dX9_writeTerm_37 : decode cX9_writeTerm 37 = .ok (.ifCond .ne 8, 3) := by decide +kernel
theorem dX9_writeTerm_40 : decode cX9_writeTerm 40 = .ok (.aload_n 2, 1) := by decide +kernel
theorem dX9_writeTerm_41 : decode cX9_writeTerm 41 = .ok (.iload_n 3, 1) := by decide +kernel
theorem dX9_writeTerm_42 : decode cX9_writeTerm 42 = .ok (.invokevirtual 76, 3) := by decide +kernel
theorem dX9_writeTerm_45 : decode cX9_writeTerm 45 = .ok (.iload_n 1, 1) := by decide +kernel
theorem dX9_writeTerm_46 : decode cX9_writeTerm 46 = .ok (.ifCond .le 9, 3) := by decide +kernel
theorem dX9_writeTerm_49 : decode cX9_writeTerm 49 = .ok (.aload_n 2, 1) := by decide +kernel
theorem dX9_writeTerm_50 : decode cX9_writeTerm 50 = .ok (.bipush 120, 2) := by decide +kernel
theorem dX9_writeTerm_52 : decode cX9_writeTerm 52 = .ok (.invokevirtual 72, 3) := by decide +kernel
theorem dX9_writeTerm_55 : decode cX9_writeTerm 55 = .ok (.iload_n 1, 1) := by decide +kernel
theorem dX9_writeTerm_56 : decode cX9_writeTerm 56 = .ok (.iconst 1, 1) := by decide +kernel
theorem dX9_writeTerm_57 : decode cX9_writeTerm 57 = .ok (.if_icmp .le 14, 3) := by decide +kernel
theorem dX9_writeTerm_60 : decode cX9_writeTerm 60 = .ok (.aload_n 2, 1) := by decide +kernel
theorem dX9_writeTerm_61 : decode cX9_writeTerm 61 = .ok (.bipush 94, 2) := by decide +kernel
theorem dX9_writeTerm_63 : decode cX9_writeTerm 63 = .ok (.invokevirtual 72, 3) := by decide +kernel
theorem dX9_writeTerm_66 : decode cX9_writeTerm 66 = .ok (.aload_n 2, 1) := by decide +kernel
theorem dX9_writeTerm_67 : decode cX9_writeTerm 67 = .ok (.iload_n 1, 1) := by decide +kernel
theorem dX9_writeTerm_68 : decode cX9_writeTerm 68 = .ok (.invokevirtual 76, 3) := by decide +kernel
theorem dX9_writeTerm_71 : decode cX9_writeTerm 71 = .ok (.return_, 1) := by decide +kernel
theorem dX10_init_0 : decode cX10_init 0 = .ok (.aload_n 0, 1) := by decide +kernel
theorem dX10_init_1 : decode cX10_init 1 = .ok (.invokespecial 3, 3) := by decide +kernel
theorem dX10_init_4 : decode cX10_init 4 = .ok (.aload_n 0, 1) := by decide +kernel
theorem dX10_init_5 : decode cX10_init 5 = .ok (.iconst 0, 1) := by decide +kernel
theorem dX10_init_6 : decode cX10_init 6 = .ok (.putfield 9, 3) := by decide +kernel
theorem dX10_init_9 : decode cX10_init 9 = .ok (.aload_n 0, 1) := by decide +kernel
theorem dX10_init_10 : decode cX10_init 10 = .ok (.iconst 1, 1) := by decide +kernel
theorem dX10_init_11 : decode cX10_init 11 = .ok (.iload_n 1, 1) := by decide +kernel
theorem dX10_init_12 : decode cX10_init 12 = .ok (.invokestatic 13, 3) := by decide +kernel
theorem dX10_init_15 : decode cX10_init 15 = .ok (.newarray .long, 2) := by decide +kernel
theorem dX10_init_17 : decode cX10_init 17 = .ok (.putfield 19, 3) := by decide +kernel
theorem dX10_init_20 : decode cX10_init 20 = .ok (.return_, 1) := by decide +kernel
theorem dX10_setSmall_0 : decode cX10_setSmall 0 = .ok (.aload_n 0, 1) := by decide +kernel
theorem dX10_setSmall_1 : decode cX10_setSmall 1 = .ok (.getfield 19, 3) := by decide +kernel
theorem dX10_setSmall_4 : decode cX10_setSmall 4 = .ok (.iconst 0, 1) := by decide +kernel
theorem dX10_setSmall_5 : decode cX10_setSmall 5 = .ok (.iload_n 1, 1) := by decide +kernel
theorem dX10_setSmall_6 : decode cX10_setSmall 6 = .ok (.i2l, 1) := by decide +kernel
theorem dX10_setSmall_7 : decode cX10_setSmall 7 = .ok (.ldc2_w 23, 3) := by decide +kernel
theorem dX10_setSmall_10 : decode cX10_setSmall 10 = .ok (.land, 1) := by decide +kernel
theorem dX10_setSmall_11 : decode cX10_setSmall 11 = .ok (.lastore, 1) := by decide +kernel
theorem dX10_setSmall_12 : decode cX10_setSmall 12 = .ok (.aload_n 0, 1) := by decide +kernel
theorem dX10_setSmall_13 : decode cX10_setSmall 13 = .ok (.aload_n 0, 1) := by decide +kernel
theorem dX10_setSmall_14 : decode cX10_setSmall 14 = .ok (.getfield 19, 3) := by decide +kernel
theorem dX10_setSmall_17 : decode cX10_setSmall 17 = .ok (.iconst 0, 1) := by decide +kernel
theorem dX10_setSmall_18 : decode cX10_setSmall 18 = .ok (.laload, 1) := by decide +kernel
theorem dX10_setSmall_19 : decode cX10_setSmall 19 = .ok (.lconst 0, 1) := by decide +kernel
theorem dX10_setSmall_20 : decode cX10_setSmall 20 = .ok (.lcmp, 1) := by decide +kernel
theorem dX10_setSmall_21 : decode cX10_setSmall 21 = .ok (.ifCond .ne 7, 3) := by decide +kernel
theorem dX10_setSmall_24 : decode cX10_setSmall 24 = .ok (.iconst 0, 1) := by decide +kernel
theorem dX10_setSmall_25 : decode cX10_setSmall 25 = .ok (.goto 4, 3) := by decide +kernel
theorem dX10_setSmall_28 : decode cX10_setSmall 28 = .ok (.iconst 1, 1) := by decide +kernel
theorem dX10_setSmall_29 : decode cX10_setSmall 29 = .ok (.putfield 9, 3) := by decide +kernel
theorem dX10_setSmall_32 : decode cX10_setSmall 32 = .ok (.return_, 1) := by decide +kernel
theorem dX10_setSize_0 : decode cX10_setSize 0 = .ok (.iconst 3, 1) := by decide +kernel
theorem dX10_setSize_1 : decode cX10_setSize 1 = .ok (.aload_n 0, 1) := by decide +kernel
theorem dX10_setSize_2 : decode cX10_setSize 2 = .ok (.getfield 19, 3) := by decide +kernel
theorem dX10_setSize_5 : decode cX10_setSize 5 = .ok (.arraylength, 1) := by decide +kernel
theorem dX10_setSize_6 : decode cX10_setSize 6 = .ok (.invokestatic 25, 3) := by decide +kernel
theorem dX10_setSize_9 : decode cX10_setSize 9 = .ok (.istore_n 3, 1) := by decide +kernel
theorem dX10_setSize_10 : decode cX10_setSize 10 = .ok (.iconst 0, 1) := by decide +kernel
theorem dX10_setSize_11 : decode cX10_setSize 11 = .ok (.istore 4, 2) := by decide +kernel
theorem dX10_setSize_13 : decode cX10_setSize 13 = .ok (.iload 4, 2) := by decide +kernel
theorem dX10_setSize_15 : decode cX10_setSize 15 = .ok (.iload_n 3, 1) := by decide +kernel
theorem dX10_setSize_16 : decode cX10_setSize 16 = .ok (.if_icmp .ge 27, 3) := by decide +kernel
theorem dX10_setSize_19 : decode cX10_setSize 19 = .ok (.aload_n 0, 1) := by decide +kernel
theorem dX10_setSize_20 : decode cX10_setSize 20 = .ok (.getfield 19, 3) := by decide +kernel
theorem dX10_setSize_23 : decode cX10_setSize 23 = .ok (.iload 4, 2) := by decide +kernel
theorem dX10_setSize_25 : decode cX10_setSize 25 = .ok (.lload_n 1, 1) := by decide +kernel
theorem dX10_setSize_26 : decode cX10_setSize 26 = .ok (.iload 4, 2) := by decide +kernel
theorem dX10_setSize_28 : decode cX10_setSize 28 = .ok (.bipush 28, 2) := by decide +kernel
theorem dX10_setSize_30 : decode cX10_setSize 30 = .ok (.imul, 1) := by decide +kernel
theorem dX10_setSize_31 : decode cX10_setSize 31 = .ok (.lushr, 1) := by decide +kernel
theorem dX10_setSize_32 : decode cX10_setSize 32 = .ok (.ldc2_w 23, 3) := by decide +kernel
theorem dX10_setSize_35 : decode cX10_setSize 35 = .ok (.land, 1) := by decide +kernel
theorem dX10_setSize_36 : decode cX10_setSize 36 = .ok (.lastore, 1) := by decide +kernel
theorem dX10_setSize_37 : decode cX10_setSize 37 = .ok (.iinc 4 1, 3) := by decide +kernel
theorem dX10_setSize_40 : decode cX10_setSize 40 = .ok (.goto (-27), 3) := by decide +kernel
theorem dX10_setSize_43 : decode cX10_setSize 43 = .ok (.aload_n 0, 1) := by decide +kernel
theorem dX10_setSize_44 : decode cX10_setSize 44 = .ok (.iload_n 3, 1) := by decide +kernel
theorem dX10_setSize_45 : decode cX10_setSize 45 = .ok (.invokevirtual 28, 3) := by decide +kernel
theorem dX10_setSize_48 : decode cX10_setSize 48 = .ok (.return_, 1) := by decide +kernel
theorem dX10_setTo_0 : decode cX10_setTo 0 = .ok (.aload_n 0, 1) := by decide +kernel
theorem dX10_setTo_1 : decode cX10_setTo 1 = .ok (.aload_n 1, 1) := by decide +kernel
theorem dX10_setTo_2 : decode cX10_setTo 2 = .ok (.getfield 9, 3) := by decide +kernel
theorem dX10_setTo_5 : decode cX10_setTo 5 = .ok (.aload_n 0, 1) := by decide +kernel
theorem dX10_setTo_6 : decode cX10_setTo 6 = .ok (.getfield 19, 3) := by decide +kernel
theorem dX10_setTo_9 : decode cX10_setTo 9 = .ok (.arraylength, 1) := by decide +kernel
theorem dX10_setTo_10 : decode cX10_setTo 10 = .ok (.invokestatic 25, 3) := by decide +kernel
theorem dX10_setTo_13 : decode cX10_setTo 13 = .ok (.putfield 9, 3) := by decide +kernel
theorem dX10_setTo_16 : decode cX10_setTo 16 = .ok (.aload_n 1, 1) := by decide +kernel
theorem dX10_setTo_17 : decode cX10_setTo 17 = .ok (.getfield 19, 3) := by decide +kernel
theorem dX10_setTo_20 : decode cX10_setTo 20 = .ok (.iconst 0, 1) := by decide +kernel
theorem dX10_setTo_21 : decode cX10_setTo 21 = .ok (.aload_n 0, 1) := by decide +kernel
theorem dX10_setTo_22 : decode cX10_setTo 22 = .ok (.getfield 19, 3) := by decide +kernel
theorem dX10_setTo_25 : decode cX10_setTo 25 = .ok (.iconst 0, 1) := by decide +kernel
theorem dX10_setTo_26 : decode cX10_setTo 26 = .ok (.aload_n 0, 1) := by decide +kernel
theorem dX10_setTo_27 : decode cX10_setTo 27 = .ok (.getfield 9, 3) := by decide +kernel
theorem dX10_setTo_30 : decode cX10_setTo 30 = .ok (.invokestatic 32, 3) := by decide +kernel
theorem dX10_setTo_33 : decode cX10_setTo 33 = .ok (.return_, 1) := by decide +kernel
theorem dX10_setSquare_0 : decode cX10_setSquare 0 = .ok (.aload_n 0, 1) := by decide +kernel
theorem dX10_setSquare_1 : decode cX10_setSquare 1 = .ok (.getfield 19, 3) := by decide +kernel
theorem dX10_setSquare_4 : decode cX10_setSquare 4 = .ok (.arraylength, 1) := by decide +kernel
theorem dX10_setSquare_5 : decode cX10_setSquare 5 = .ok (.iconst 2, 1) := by decide +kernel
theorem dX10_setSquare_6 : decode cX10_setSquare 6 = .ok (.aload_n 1, 1) := by decide +kernel
theorem dX10_setSquare_7 : decode cX10_setSquare 7 = .ok (.getfield 9, 3) := by decide +kernel
theorem dX10_setSquare_10 : decode cX10_setSquare 10 = .ok (.imul, 1) := by decide +kernel
theorem dX10_setSquare_11 : decode cX10_setSquare 11 = .ok (.invokestatic 25, 3) := by decide +kernel
theorem dX10_setSquare_14 : decode cX10_setSquare 14 = .ok (.istore_n 2, 1) := by decide +kernel
theorem dX10_setSquare_15 : decode cX10_setSquare 15 = .ok (.aload_n 0, 1) := by decide +kernel
theorem dX10_setSquare_16 : decode cX10_setSquare 16 = .ok (.getfield 19, 3) := by decide +kernel
theorem dX10_setSquare_19 : decode cX10_setSquare 19 = .ok (.iconst 0, 1) := by decide +kernel
theorem dX10_setSquare_20 : decode cX10_setSquare 20 = .ok (.iload_n 2, 1) := by decide +kernel
theorem dX10_setSquare_21 : decode cX10_setSquare 21 = .ok (.lconst 0, 1) := by decide +kernel
theorem dX10_setSquare_22 : decode cX10_setSquare 22 = .ok (.invokestatic 38, 3) := by decide +kernel
theorem dX10_setSquare_25 : decode cX10_setSquare 25 = .ok (.iconst 0, 1) := by decide +kernel
theorem dX10_setSquare_26 : decode cX10_setSquare 26 = .ok (.istore_n 3, 1) := by decide +kernel
theorem dX10_setSquare_27 : decode cX10_setSquare 27 = .ok (.iload_n 3, 1) := by decide +kernel
theorem dX10_setSquare_28 : decode cX10_setSquare 28 = .ok (.aload_n 1, 1) := by decide +kernel
theorem dX10_setSquare_29 : decode cX10_setSquare 29 = .ok (.getfield 9, 3) := by decide +kernel
theorem dX10_setSquare_32 : decode cX10_setSquare 32 = .ok (.if_icmp .ge 101, 3) := by decide +kernel
theorem dX10_setSquare_35 : decode cX10_setSquare 35 = .ok (.iload_n 3, 1) := by decide +kernel
theorem dX10_setSquare_36 : decode cX10_setSquare 36 = .ok (.iload_n 2, 1) := by decide +kernel
theorem dX10_setSquare_37 : decode cX10_setSquare 37 = .ok (.if_icmp .ge 96, 3) := by decide +kernel
theorem dX10_setSquare_40 : decode cX10_setSquare 40 = .ok (.aload_n 1, 1) := by decide +kernel
theorem dX10_setSquare_41 : decode cX10_setSquare 41 = .ok (.getfield 19, 3) := by decide +kernel
theorem dX10_setSquare_44 : decode cX10_setSquare 44 = .ok (.iload_n 3, 1) := by decide +kernel
theorem dX10_setSquare_45 : decode cX10_setSquare 45 = .ok (.laload, 1) := by decide +kernel
theorem dX10_setSquare_46 : decode cX10_setSquare 46 = .ok (.lstore 4, 2) := by decide +kernel
theorem dX10_setSquare_48 : decode cX10_setSquare 48 = .ok (.aload_n 1, 1) := by decide +kernel
theorem dX10_setSquare_49 : decode cX10_setSquare 49 = .ok (.getfield 9, 3) := by decide +kernel
theorem dX10_setSquare_52 : decode cX10_setSquare 52 = .ok (.iload_n 2, 1) := by decide +kernel
theorem dX10_setSquare_53 : decode cX10_setSquare 53 = .ok (.iload_n 3, 1) := by decide +kernel
theorem dX10_setSquare_54 : decode cX10_setSquare 54 = .ok (.isub, 1) := by decide +kernel
theorem dX10_setSquare_55 : decode cX10_setSquare 55 = .ok (.invokestatic 25, 3) := by decide +kernel
theorem dX10_setSquare_58 : decode cX10_setSquare 58 = .ok (.istore 6, 2) := by decide +kernel
theorem dX10_setSquare_60 : decode cX10_setSquare 60 = .ok (.iconst 2, 1) := by decide +kernel
theorem dX10_setSquare_61 : decode cX10_setSquare 61 = .ok (.iload_n 3, 1) := by decide +kernel
theorem dX10_setSquare_62 : decode cX10_setSquare 62 = .ok (.imul, 1) := by decide +kernel
theorem dX10_setSquare_63 : decode cX10_setSquare 63 = .ok (.iload_n 2, 1) := by decide +kernel
theorem dX10_setSquare_64 : decode cX10_setSquare 64 = .ok (.if_icmp .ge 19, 3) := by decide +kernel
theorem dX10_setSquare_67 : decode cX10_setSquare 67 = .ok (.aload_n 0, 1) := by decide +kernel
theorem dX10_setSquare_68 : decode cX10_setSquare 68 = .ok (.getfield 19, 3) := by decide +kernel
theorem dX10_setSquare_71 : decode cX10_setSquare 71 = .ok (.iconst 2, 1) := by decide +kernel
theorem dX10_setSquare_72 : decode cX10_setSquare 72 = .ok (.iload_n 3, 1) := by decide +kernel
theorem dX10_setSquare_73 : decode cX10_setSquare 73 = .ok (.imul, 1) := by decide +kernel
theorem dX10_setSquare_74 : decode cX10_setSquare 74 = .ok (.dup2, 1) := by decide +kernel
theorem dX10_setSquare_75 : decode cX10_setSquare 75 = .ok (.laload, 1) := by decide +kernel
theorem dX10_setSquare_76 : decode cX10_setSquare 76 = .ok (.lload 4, 2) := by decide +kernel
theorem dX10_setSquare_78 : decode cX10_setSquare 78 = .ok (.lload 4, 2) := by decide +kernel
theorem dX10_setSquare_80 : decode cX10_setSquare 80 = .ok (.lmul, 1) := by decide +kernel
theorem dX10_setSquare_81 : decode cX10_setSquare 81 = .ok (.ladd, 1) := by decide +kernel
theorem dX10_setSquare_82 : decode cX10_setSquare 82 = .ok (.lastore, 1) := by decide +kernel
theorem dX10_setSquare_83 : decode cX10_setSquare 83 = .ok (.iload_n 3, 1) := by decide +kernel
theorem dX10_setSquare_84 : decode cX10_setSquare 84 = .ok (.iconst 1, 1) := by decide +kernel
theorem dX10_setSquare_85 : decode cX10_setSquare 85 = .ok (.iadd, 1) := by decide +kernel
theorem dX10_setSquare_86 : decode cX10_setSquare 86 = .ok (.istore 7, 2) := by decide +kernel
theorem dX10_setSquare_88 : decode cX10_setSquare 88 = .ok (.iload 7, 2) := by decide +kernel
theorem dX10_setSquare_90 : decode cX10_setSquare 90 = .ok (.iload 6, 2) := by decide +kernel
theorem dX10_setSquare_92 : decode cX10_setSquare 92 = .ok (.if_icmp .ge 35, 3) := by decide +kernel
theorem dX10_setSquare_95 : decode cX10_setSquare 95 = .ok (.aload_n 0, 1) := by decide +kernel
theorem dX10_setSquare_96 : decode cX10_setSquare 96 = .ok (.getfield 19, 3) := by decide +kernel
theorem dX10_setSquare_99 : decode cX10_setSquare 99 = .ok (.iload_n 3, 1) := by decide +kernel
theorem dX10_setSquare_100 : decode cX10_setSquare 100 = .ok (.iload 7, 2) := by decide +kernel
theorem dX10_setSquare_102 : decode cX10_setSquare 102 = .ok (.iadd, 1) := by decide +kernel
theorem dX10_setSquare_103 : decode cX10_setSquare 103 = .ok (.dup2, 1) := by decide +kernel
theorem dX10_setSquare_104 : decode cX10_setSquare 104 = .ok (.laload, 1) := by decide +kernel
theorem dX10_setSquare_105 : decode cX10_setSquare 105 = .ok (.ldc2_w 44, 3) := by decide +kernel
theorem dX10_setSquare_108 : decode cX10_setSquare 108 = .ok (.lload 4, 2) := by decide +kernel
theorem dX10_setSquare_110 : decode cX10_setSquare 110 = .ok (.lmul, 1) := by decide +kernel
theorem dX10_setSquare_111 : decode cX10_setSquare 111 = .ok (.aload_n 1, 1) := by decide +kernel
theorem dX10_setSquare_112 : decode cX10_setSquare 112 = .ok (.getfield 19, 3) := by decide +kernel
theorem dX10_setSquare_115 : decode cX10_setSquare 115 = .ok (.iload 7, 2) := by decide +kernel
theorem dX10_setSquare_117 : decode cX10_setSquare 117 = .ok (.laload, 1) := by decide +kernel
theorem dX10_setSquare_118 : decode cX10_setSquare 118 = .ok (.lmul, 1) := by decide +kernel
theorem dX10_setSquare_119 : decode cX10_setSquare 119 = .ok (.ladd, 1) := by decide +kernel
theorem dX10_setSquare_120 : decode cX10_setSquare 120 = .ok (.lastore, 1) := by decide +kernel
theorem dX10_setSquare_121 : decode cX10_setSquare 121 = .ok (.iinc 7 1, 3) := by decide +kernel
theorem dX10_setSquare_124 : decode cX10_setSquare 124 = .ok (.goto (-36), 3) := by decide +kernel
theorem dX10_setSquare_127 : decode cX10_setSquare 127 = .ok (.iinc 3 1, 3) := by decide +kernel
theorem dX10_setSquare_130 : decode cX10_setSquare 130 = .ok (.goto (-103), 3) := by decide +kernel
theorem dX10_setSquare_133 : decode cX10_setSquare 133 = .ok (.aload_n 0, 1) := by decide +kernel
theorem dX10_setSquare_134 : decode cX10_setSquare 134 = .ok (.iload_n 2, 1) := by decide +kernel
theorem dX10_setSquare_135 : decode cX10_setSquare 135 = .ok (.invokevirtual 28, 3) := by decide +kernel
theorem dX10_setSquare_138 : decode cX10_setSquare 138 = .ok (.return_, 1) := by decide +kernel
theorem dX10_setProduct_0 : decode cX10_setProduct 0 = .ok (.aload_n 0, 1) := by decide +kernel
theorem dX10_setProduct_1 : decode cX10_setProduct 1 = .ok (.getfield 19, 3) := by decide +kernel
theorem dX10_setProduct_4 : decode cX10_setProduct 4 = .ok (.arraylength, 1) := by decide +kernel
theorem dX10_setProduct_5 : decode cX10_setProduct 5 = .ok (.aload_n 1, 1) := by decide +kernel
theorem dX10_setProduct_6 : decode cX10_setProduct 6 = .ok (.getfield 9, 3) := by decide +kernel
theorem dX10_setProduct_9 : decode cX10_setProduct 9 = .ok (.aload_n 2, 1) := by decide +kernel
theorem dX10_setProduct_10 : decode cX10_setProduct 10 = .ok (.getfield 9, 3) := by decide +kernel
theorem dX10_setProduct_13 : decode cX10_setProduct 13 = .ok (.iadd, 1) := by decide +kernel
theorem dX10_setProduct_14 : decode cX10_setProduct 14 = .ok (.invokestatic 25, 3) := by decide +kernel
theorem dX10_setProduct_17 : decode cX10_setProduct 17 = .ok (.istore_n 3, 1) := by decide +kernel
theorem dX10_setProduct_18 : decode cX10_setProduct 18 = .ok (.aload_n 0, 1) := by decide +kernel
theorem dX10_setProduct_19 : decode cX10_setProduct 19 = .ok (.getfield 19, 3) := by decide +kernel
theorem dX10_setProduct_22 : decode cX10_setProduct 22 = .ok (.iconst 0, 1) := by decide +kernel
theorem dX10_setProduct_23 : decode cX10_setProduct 23 = .ok (.iload_n 3, 1) := by decide +kernel
theorem dX10_setProduct_24 : decode cX10_setProduct 24 = .ok (.lconst 0, 1) := by decide +kernel
theorem dX10_setProduct_25 : decode cX10_setProduct 25 = .ok (.invokestatic 38, 3) := by decide +kernel
theorem dX10_setProduct_28 : decode cX10_setProduct 28 = .ok (.iconst 0, 1) := by decide +kernel
theorem dX10_setProduct_29 : decode cX10_setProduct 29 = .ok (.istore 4, 2) := by decide +kernel
theorem dX10_setProduct_31 : decode cX10_setProduct 31 = .ok (.iload 4, 2) := by decide +kernel
theorem dX10_setProduct_33 : decode cX10_setProduct 33 = .ok (.aload_n 1, 1) := by decide +kernel
theorem dX10_setProduct_34 : decode cX10_setProduct 34 = .ok (.getfield 9, 3) := by decide +kernel
theorem dX10_setProduct_37 : decode cX10_setProduct 37 = .ok (.if_icmp .ge 76, 3) := by decide +kernel
theorem dX10_setProduct_40 : decode cX10_setProduct 40 = .ok (.iload 4, 2) := by decide +kernel
theorem dX10_setProduct_42 : decode cX10_setProduct 42 = .ok (.iload_n 3, 1) := by decide +kernel
theorem dX10_setProduct_43 : decode cX10_setProduct 43 = .ok (.if_icmp .ge 70, 3) := by decide +kernel
theorem dX10_setProduct_46 : decode cX10_setProduct 46 = .ok (.aload_n 1, 1) := by decide +kernel
theorem dX10_setProduct_47 : decode cX10_setProduct 47 = .ok (.getfield 19, 3) := by decide +kernel
theorem dX10_setProduct_50 : decode cX10_setProduct 50 = .ok (.iload 4, 2) := by decide +kernel
theorem dX10_setProduct_52 : decode cX10_setProduct 52 = .ok (.laload, 1) := by decide +kernel
theorem dX10_setProduct_53 : decode cX10_setProduct 53 = .ok (.lstore 5, 2) := by decide +kernel
theorem dX10_setProduct_55 : decode cX10_setProduct 55 = .ok (.aload_n 2, 1) := by decide +kernel
theorem dX10_setProduct_56 : decode cX10_setProduct 56 = .ok (.getfield 9, 3) := by decide +kernel
theorem dX10_setProduct_59 : decode cX10_setProduct 59 = .ok (.iload_n 3, 1) := by decide +kernel
theorem dX10_setProduct_60 : decode cX10_setProduct 60 = .ok (.iload 4, 2) := by decide +kernel
theorem dX10_setProduct_62 : decode cX10_setProduct 62 = .ok (.isub, 1) := by decide +kernel
theorem dX10_setProduct_63 : decode cX10_setProduct 63 = .ok (.invokestatic 25, 3) := by decide +kernel
theorem dX10_setProduct_66 : decode cX10_setProduct 66 = .ok (.istore 7, 2) := by decide +kernel
theorem dX10_setProduct_68 : decode cX10_setProduct 68 = .ok (.iconst 0, 1) := by decide +kernel
theorem dX10_setProduct_69 : decode cX10_setProduct 69 = .ok (.istore 8, 2) := by decide +kernel
theorem dX10_setProduct_71 : decode cX10_setProduct 71 = .ok (.iload 8, 2) := by decide +kernel
theorem dX10_setProduct_73 : decode cX10_setProduct 73 = .ok (.iload 7, 2) := by decide +kernel
theorem dX10_setProduct_75 : decode cX10_setProduct 75 = .ok (.if_icmp .ge 32, 3) := by decide +kernel
theorem dX10_setProduct_78 : decode cX10_setProduct 78 = .ok (.aload_n 0, 1) := by decide +kernel
theorem dX10_setProduct_79 : decode cX10_setProduct 79 = .ok (.getfield 19, 3) := by decide +kernel
theorem dX10_setProduct_82 : decode cX10_setProduct 82 = .ok (.iload 4, 2) := by decide +kernel
theorem dX10_setProduct_84 : decode cX10_setProduct 84 = .ok (.iload 8, 2) := by decide +kernel
theorem dX10_setProduct_86 : decode cX10_setProduct 86 = .ok (.iadd, 1) := by decide +kernel
theorem dX10_setProduct_87 : decode cX10_setProduct 87 = .ok (.dup2, 1) := by decide +kernel
theorem dX10_setProduct_88 : decode cX10_setProduct 88 = .ok (.laload, 1) := by decide +kernel
theorem dX10_setProduct_89 : decode cX10_setProduct 89 = .ok (.lload 5, 2) := by decide +kernel
theorem dX10_setProduct_91 : decode cX10_setProduct 91 = .ok (.aload_n 2, 1) := by decide +kernel
theorem dX10_setProduct_92 : decode cX10_setProduct 92 = .ok (.getfield 19, 3) := by decide +kernel
theorem dX10_setProduct_95 : decode cX10_setProduct 95 = .ok (.iload 8, 2) := by decide +kernel
theorem dX10_setProduct_97 : decode cX10_setProduct 97 = .ok (.laload, 1) := by decide +kernel
theorem dX10_setProduct_98 : decode cX10_setProduct 98 = .ok (.lmul, 1) := by decide +kernel
theorem dX10_setProduct_99 : decode cX10_setProduct 99 = .ok (.ladd, 1) := by decide +kernel
theorem dX10_setProduct_100 : decode cX10_setProduct 100 = .ok (.lastore, 1) := by decide +kernel
theorem dX10_setProduct_101 : decode cX10_setProduct 101 = .ok (.iinc 8 1, 3) := by decide +kernel
theorem dX10_setProduct_104 : decode cX10_setProduct 104 = .ok (.goto (-33), 3) := by decide +kernel
theorem dX10_setProduct_107 : decode cX10_setProduct 107 = .ok (.iinc 4 1, 3) := by decide +kernel
theorem dX10_setProduct_110 : decode cX10_setProduct 110 = .ok (.goto (-79), 3) := by decide +kernel
theorem dX10_setProduct_113 : decode cX10_setProduct 113 = .ok (.aload_n 0, 1) := by decide +kernel
theorem dX10_setProduct_114 : decode cX10_setProduct 114 = .ok (.iload_n 3, 1) := by decide +kernel
theorem dX10_setProduct_115 : decode cX10_setProduct 115 = .ok (.invokevirtual 28, 3) := by decide +kernel
theorem dX10_setProduct_118 : decode cX10_setProduct 118 = .ok (.return_, 1) := by decide +kernel
theorem dX10_setSquares_0 : decode cX10_setSquares 0 = .ok (.aload_n 0, 1) := by decide +kernel
theorem dX10_setSquares_1 : decode cX10_setSquares 1 = .ok (.getfield 19, 3) := by decide +kernel
theorem dX10_setSquares_4 : decode cX10_setSquares 4 = .ok (.lconst 0, 1) := by decide +kernel
theorem dX10_setSquares_5 : decode cX10_setSquares 5 = .ok (.invokestatic 46, 3) := by decide +kernel
theorem dX10_setSquares_8 : decode cX10_setSquares 8 = .ok (.iconst 0, 1) := by decide +kernel
theorem dX10_setSquares_9 : decode cX10_setSquares 9 = .ok (.istore_n 3, 1) := by decide +kernel
theorem dX10_setSquares_10 : decode cX10_setSquares 10 = .ok (.iload_n 3, 1) := by decide +kernel
theorem dX10_setSquares_11 : decode cX10_setSquares 11 = .ok (.iload_n 2, 1) := by decide +kernel
theorem dX10_setSquares_12 : decode cX10_setSquares 12 = .ok (.if_icmp .gt 146, 3) := by decide +kernel
theorem dX10_setSquares_15 : decode cX10_setSquares 15 = .ok (.iload_n 3, 1) := by decide +kernel
theorem dX10_setSquares_16 : decode cX10_setSquares 16 = .ok (.aload_n 1, 1) := by decide +kernel
theorem dX10_setSquares_17 : decode cX10_setSquares 17 = .ok (.arraylength, 1) := by decide +kernel
theorem dX10_setSquares_18 : decode cX10_setSquares 18 = .ok (.if_icmp .ge 140, 3) := by decide +kernel
theorem dX10_setSquares_21 : decode cX10_setSquares 21 = .ok (.aload_n 0, 1) := by decide +kernel
theorem dX10_setSquares_22 : decode cX10_setSquares 22 = .ok (.getfield 19, 3) := by decide +kernel
theorem dX10_setSquares_25 : decode cX10_setSquares 25 = .ok (.arraylength, 1) := by decide +kernel
theorem dX10_setSquares_26 : decode cX10_setSquares 26 = .ok (.iconst 5, 1) := by decide +kernel
theorem dX10_setSquares_27 : decode cX10_setSquares 27 = .ok (.if_icmp .lt 131, 3) := by decide +kernel
theorem dX10_setSquares_30 : decode cX10_setSquares 30 = .ok (.aload_n 1, 1) := by decide +kernel
theorem dX10_setSquares_31 : decode cX10_setSquares 31 = .ok (.iload_n 3, 1) := by decide +kernel
theorem dX10_setSquares_32 : decode cX10_setSquares 32 = .ok (.laload, 1) := by decide +kernel
theorem dX10_setSquares_33 : decode cX10_setSquares 33 = .ok (.invokestatic 49, 3) := by decide +kernel
theorem dX10_setSquares_36 : decode cX10_setSquares 36 = .ok (.lstore 4, 2) := by decide +kernel
theorem dX10_setSquares_38 : decode cX10_setSquares 38 = .ok (.lload 4, 2) := by decide +kernel
theorem dX10_setSquares_40 : decode cX10_setSquares 40 = .ok (.ldc2_w 23, 3) := by decide +kernel
theorem dX10_setSquares_43 : decode cX10_setSquares 43 = .ok (.land, 1) := by decide +kernel
theorem dX10_setSquares_44 : decode cX10_setSquares 44 = .ok (.lstore 6, 2) := by decide +kernel
theorem dX10_setSquares_46 : decode cX10_setSquares 46 = .ok (.lload 4, 2) := by decide +kernel
theorem dX10_setSquares_48 : decode cX10_setSquares 48 = .ok (.bipush 28, 2) := by decide +kernel
theorem dX10_setSquares_50 : decode cX10_setSquares 50 = .ok (.lushr, 1) := by decide +kernel
theorem dX10_setSquares_51 : decode cX10_setSquares 51 = .ok (.ldc2_w 23, 3) := by decide +kernel
theorem dX10_setSquares_54 : decode cX10_setSquares 54 = .ok (.land, 1) := by decide +kernel
theorem dX10_setSquares_55 : decode cX10_setSquares 55 = .ok (.lstore 8, 2) := by decide +kernel
theorem dX10_setSquares_57 : decode cX10_setSquares 57 = .ok (.lload 4, 2) := by decide +kernel
theorem dX10_setSquares_59 : decode cX10_setSquares 59 = .ok (.bipush 56, 2) := by decide +kernel
theorem dX10_setSquares_61 : decode cX10_setSquares 61 = .ok (.lushr, 1) := by decide +kernel
theorem dX10_setSquares_62 : decode cX10_setSquares 62 = .ok (.lstore 10, 2) := by decide +kernel
theorem dX10_setSquares_64 : decode cX10_setSquares 64 = .ok (.aload_n 0, 1) := by decide +kernel
theorem dX10_setSquares_65 : decode cX10_setSquares 65 = .ok (.getfield 19, 3) := by decide +kernel
theorem dX10_setSquares_68 : decode cX10_setSquares 68 = .ok (.iconst 0, 1) := by decide +kernel
theorem dX10_setSquares_69 : decode cX10_setSquares 69 = .ok (.dup2, 1) := by decide +kernel
theorem dX10_setSquares_70 : decode cX10_setSquares 70 = .ok (.laload, 1) := by decide +kernel
theorem dX10_setSquares_71 : decode cX10_setSquares 71 = .ok (.lload 6, 2) := by decide +kernel
theorem dX10_setSquares_73 : decode cX10_setSquares 73 = .ok (.lload 6, 2) := by decide +kernel
theorem dX10_setSquares_75 : decode cX10_setSquares 75 = .ok (.lmul, 1) := by decide +kernel
theorem dX10_setSquares_76 : decode cX10_setSquares 76 = .ok (.ladd, 1) := by decide +kernel
theorem dX10_setSquares_77 : decode cX10_setSquares 77 = .ok (.lastore, 1) := by decide +kernel
theorem dX10_setSquares_78 : decode cX10_setSquares 78 = .ok (.aload_n 0, 1) := by decide +kernel
theorem dX10_setSquares_79 : decode cX10_setSquares 79 = .ok (.getfield 19, 3) := by decide +kernel
theorem dX10_setSquares_82 : decode cX10_setSquares 82 = .ok (.iconst 1, 1) := by decide +kernel
theorem dX10_setSquares_83 : decode cX10_setSquares 83 = .ok (.dup2, 1) := by decide +kernel
theorem dX10_setSquares_84 : decode cX10_setSquares 84 = .ok (.laload, 1) := by decide +kernel
theorem dX10_setSquares_85 : decode cX10_setSquares 85 = .ok (.ldc2_w 44, 3) := by decide +kernel
theorem dX10_setSquares_88 : decode cX10_setSquares 88 = .ok (.lload 6, 2) := by decide +kernel
theorem dX10_setSquares_90 : decode cX10_setSquares 90 = .ok (.lmul, 1) := by decide +kernel
theorem dX10_setSquares_91 : decode cX10_setSquares 91 = .ok (.lload 8, 2) := by decide +kernel
theorem dX10_setSquares_93 : decode cX10_setSquares 93 = .ok (.lmul, 1) := by decide +kernel
theorem dX10_setSquares_94 : decode cX10_setSquares 94 = .ok (.ladd, 1) := by decide +kernel
theorem dX10_setSquares_95 : decode cX10_setSquares 95 = .ok (.lastore, 1) := by decide +kernel
theorem dX10_setSquares_96 : decode cX10_setSquares 96 = .ok (.aload_n 0, 1) := by decide +kernel
theorem dX10_setSquares_97 : decode cX10_setSquares 97 = .ok (.getfield 19, 3) := by decide +kernel
theorem dX10_setSquares_100 : decode cX10_setSquares 100 = .ok (.iconst 2, 1) := by decide +kernel
theorem dX10_setSquares_101 : decode cX10_setSquares 101 = .ok (.dup2, 1) := by decide +kernel
theorem dX10_setSquares_102 : decode cX10_setSquares 102 = .ok (.laload, 1) := by decide +kernel
theorem dX10_setSquares_103 : decode cX10_setSquares 103 = .ok (.ldc2_w 44, 3) := by decide +kernel
theorem dX10_setSquares_106 : decode cX10_setSquares 106 = .ok (.lload 6, 2) := by decide +kernel
theorem dX10_setSquares_108 : decode cX10_setSquares 108 = .ok (.lmul, 1) := by decide +kernel
theorem dX10_setSquares_109 : decode cX10_setSquares 109 = .ok (.lload 10, 2) := by decide +kernel
theorem dX10_setSquares_111 : decode cX10_setSquares 111 = .ok (.lmul, 1) := by decide +kernel
theorem dX10_setSquares_112 : decode cX10_setSquares 112 = .ok (.lload 8, 2) := by decide +kernel
theorem dX10_setSquares_114 : decode cX10_setSquares 114 = .ok (.lload 8, 2) := by decide +kernel
theorem dX10_setSquares_116 : decode cX10_setSquares 116 = .ok (.lmul, 1) := by decide +kernel
theorem dX10_setSquares_117 : decode cX10_setSquares 117 = .ok (.ladd, 1) := by decide +kernel
theorem dX10_setSquares_118 : decode cX10_setSquares 118 = .ok (.ladd, 1) := by decide +kernel
theorem dX10_setSquares_119 : decode cX10_setSquares 119 = .ok (.lastore, 1) := by decide +kernel
theorem dX10_setSquares_120 : decode cX10_setSquares 120 = .ok (.aload_n 0, 1) := by decide +kernel
theorem dX10_setSquares_121 : decode cX10_setSquares 121 = .ok (.getfield 19, 3) := by decide +kernel
theorem dX10_setSquares_124 : decode cX10_setSquares 124 = .ok (.iconst 3, 1) := by decide +kernel
theorem dX10_setSquares_125 : decode cX10_setSquares 125 = .ok (.dup2, 1) := by decide +kernel
theorem dX10_setSquares_126 : decode cX10_setSquares 126 = .ok (.laload, 1) := by decide +kernel
theorem dX10_setSquares_127 : decode cX10_setSquares 127 = .ok (.ldc2_w 44, 3) := by decide +kernel
theorem dX10_setSquares_130 : decode cX10_setSquares 130 = .ok (.lload 8, 2) := by decide +kernel
theorem dX10_setSquares_132 : decode cX10_setSquares 132 = .ok (.lmul, 1) := by decide +kernel
theorem dX10_setSquares_133 : decode cX10_setSquares 133 = .ok (.lload 10, 2) := by decide +kernel
theorem dX10_setSquares_135 : decode cX10_setSquares 135 = .ok (.lmul, 1) := by decide +kernel
theorem dX10_setSquares_136 : decode cX10_setSquares 136 = .ok (.ladd, 1) := by decide +kernel
theorem dX10_setSquares_137 : decode cX10_setSquares 137 = .ok (.lastore, 1) := by decide +kernel
theorem dX10_setSquares_138 : decode cX10_setSquares 138 = .ok (.aload_n 0, 1) := by decide +kernel
theorem dX10_setSquares_139 : decode cX10_setSquares 139 = .ok (.getfield 19, 3) := by decide +kernel
theorem dX10_setSquares_142 : decode cX10_setSquares 142 = .ok (.iconst 4, 1) := by decide +kernel
theorem dX10_setSquares_143 : decode cX10_setSquares 143 = .ok (.dup2, 1) := by decide +kernel
theorem dX10_setSquares_144 : decode cX10_setSquares 144 = .ok (.laload, 1) := by decide +kernel
theorem dX10_setSquares_145 : decode cX10_setSquares 145 = .ok (.lload 10, 2) := by decide +kernel
theorem dX10_setSquares_147 : decode cX10_setSquares 147 = .ok (.lload 10, 2) := by decide +kernel
theorem dX10_setSquares_149 : decode cX10_setSquares 149 = .ok (.lmul, 1) := by decide +kernel
theorem dX10_setSquares_150 : decode cX10_setSquares 150 = .ok (.ladd, 1) := by decide +kernel
theorem dX10_setSquares_151 : decode cX10_setSquares 151 = .ok (.lastore, 1) := by decide +kernel
theorem dX10_setSquares_152 : decode cX10_setSquares 152 = .ok (.iinc 3 1, 3) := by decide +kernel
theorem dX10_setSquares_155 : decode cX10_setSquares 155 = .ok (.goto (-145), 3) := by decide +kernel
theorem dX10_setSquares_158 : decode cX10_setSquares 158 = .ok (.aload_n 0, 1) := by decide +kernel
theorem dX10_setSquares_159 : decode cX10_setSquares 159 = .ok (.aload_n 0, 1) := by decide +kernel
theorem dX10_setSquares_160 : decode cX10_setSquares 160 = .ok (.getfield 19, 3) := by decide +kernel
theorem dX10_setSquares_163 : decode cX10_setSquares 163 = .ok (.arraylength, 1) := by decide +kernel
theorem dX10_setSquares_164 : decode cX10_setSquares 164 = .ok (.invokevirtual 28, 3) := by decide +kernel
theorem dX10_setSquares_167 : decode cX10_setSquares 167 = .ok (.return_, 1) := by decide +kernel
theorem dX10_divide_0 : decode cX10_divide 0 = .ok (.iload_n 1, 1) := by decide +kernel
theorem dX10_divide_1 : decode cX10_divide 1 = .ok (.ifCond .gt 4, 3) := by decide +kernel
theorem dX10_divide_4 : decode cX10_divide 4 = .ok (.return_, 1) := by decide +kernel
theorem dX10_divide_5 : decode cX10_divide 5 = .ok (.lconst 0, 1) := by decide +kernel
theorem dX10_divide_6 : decode cX10_divide 6 = .ok (.lstore_n 2, 1) := by decide +kernel
theorem dX10_divide_7 : decode cX10_divide 7 = .ok (.aload_n 0, 1) := by decide +kernel
theorem dX10_divide_8 : decode cX10_divide 8 = .ok (.getfield 9, 3) := by decide +kernel
theorem dX10_divide_11 : decode cX10_divide 11 = .ok (.iconst 1, 1) := by decide +kernel
theorem dX10_divide_12 : decode cX10_divide 12 = .ok (.isub, 1) := by decide +kernel
theorem dX10_divide_13 : decode cX10_divide 13 = .ok (.istore 4, 2) := by decide +kernel
theorem dX10_divide_15 : decode cX10_divide 15 = .ok (.iload 4, 2) := by decide +kernel
theorem dX10_divide_17 : decode cX10_divide 17 = .ok (.ifCond .lt 41, 3) := by decide +kernel
theorem dX10_divide_20 : decode cX10_divide 20 = .ok (.lload_n 2, 1) := by decide +kernel
theorem dX10_divide_21 : decode cX10_divide 21 = .ok (.bipush 28, 2) := by decide +kernel
theorem dX10_divide_23 : decode cX10_divide 23 = .ok (.lshl, 1) := by decide +kernel
theorem dX10_divide_24 : decode cX10_divide 24 = .ok (.aload_n 0, 1) := by decide +kernel
theorem dX10_divide_25 : decode cX10_divide 25 = .ok (.getfield 19, 3) := by decide +kernel
theorem dX10_divide_28 : decode cX10_divide 28 = .ok (.iload 4, 2) := by decide +kernel
theorem dX10_divide_30 : decode cX10_divide 30 = .ok (.laload, 1) := by decide +kernel
theorem dX10_divide_31 : decode cX10_divide 31 = .ok (.lor, 1) := by decide +kernel
theorem dX10_divide_32 : decode cX10_divide 32 = .ok (.lstore 5, 2) := by decide +kernel
theorem dX10_divide_34 : decode cX10_divide 34 = .ok (.aload_n 0, 1) := by decide +kernel
theorem dX10_divide_35 : decode cX10_divide 35 = .ok (.getfield 19, 3) := by decide +kernel
theorem dX10_divide_38 : decode cX10_divide 38 = .ok (.iload 4, 2) := by decide +kernel
theorem dX10_divide_40 : decode cX10_divide 40 = .ok (.lload 5, 2) := by decide +kernel
theorem dX10_divide_42 : decode cX10_divide 42 = .ok (.iload_n 1, 1) := by decide +kernel
theorem dX10_divide_43 : decode cX10_divide 43 = .ok (.i2l, 1) := by decide +kernel
theorem dX10_divide_44 : decode cX10_divide 44 = .ok (.ldiv, 1) := by decide +kernel
theorem dX10_divide_45 : decode cX10_divide 45 = .ok (.lastore, 1) := by decide +kernel
theorem dX10_divide_46 : decode cX10_divide 46 = .ok (.lload 5, 2) := by decide +kernel
theorem dX10_divide_48 : decode cX10_divide 48 = .ok (.iload_n 1, 1) := by decide +kernel
theorem dX10_divide_49 : decode cX10_divide 49 = .ok (.i2l, 1) := by decide +kernel
theorem dX10_divide_50 : decode cX10_divide 50 = .ok (.lrem, 1) := by decide +kernel
theorem dX10_divide_51 : decode cX10_divide 51 = .ok (.lstore_n 2, 1) := by decide +kernel
theorem dX10_divide_52 : decode cX10_divide 52 = .ok (.iinc 4 (-1), 3) := by decide +kernel
theorem dX10_divide_55 : decode cX10_divide 55 = .ok (.goto (-40), 3) := by decide +kernel
theorem dX10_divide_58 : decode cX10_divide 58 = .ok (.aload_n 0, 1) := by decide +kernel
theorem dX10_divide_59 : decode cX10_divide 59 = .ok (.aload_n 0, 1) := by decide +kernel
theorem dX10_divide_60 : decode cX10_divide 60 = .ok (.getfield 9, 3) := by decide +kernel
theorem dX10_divide_63 : decode cX10_divide 63 = .ok (.invokevirtual 28, 3) := by decide +kernel
theorem dX10_divide_66 : decode cX10_divide 66 = .ok (.return_, 1) := by decide +kernel
theorem dX10_lessOne_0 : decode cX10_lessOne 0 = .ok (.iconst 0, 1) := by decide +kernel
theorem dX10_lessOne_1 : decode cX10_lessOne 1 = .ok (.istore_n 1, 1) := by decide +kernel
theorem dX10_lessOne_2 : decode cX10_lessOne 2 = .ok (.iload_n 1, 1) := by decide +kernel
theorem dX10_lessOne_3 : decode cX10_lessOne 3 = .ok (.aload_n 0, 1) := by decide +kernel
theorem dX10_lessOne_4 : decode cX10_lessOne 4 = .ok (.getfield 9, 3) := by decide +kernel
theorem dX10_lessOne_7 : decode cX10_lessOne 7 = .ok (.iconst 1, 1) := by decide +kernel
theorem dX10_lessOne_8 : decode cX10_lessOne 8 = .ok (.isub, 1) := by decide +kernel
theorem dX10_lessOne_9 : decode cX10_lessOne 9 = .ok (.if_icmp .ge 29, 3) := by decide +kernel
theorem dX10_lessOne_12 : decode cX10_lessOne 12 = .ok (.aload_n 0, 1) := by decide +kernel
theorem dX10_lessOne_13 : decode cX10_lessOne 13 = .ok (.getfield 19, 3) := by decide +kernel
theorem dX10_lessOne_16 : decode cX10_lessOne 16 = .ok (.iload_n 1, 1) := by decide +kernel
theorem dX10_lessOne_17 : decode cX10_lessOne 17 = .ok (.laload, 1) := by decide +kernel
theorem dX10_lessOne_18 : decode cX10_lessOne 18 = .ok (.lconst 0, 1) := by decide +kernel
theorem dX10_lessOne_19 : decode cX10_lessOne 19 = .ok (.lcmp, 1) := by decide +kernel
theorem dX10_lessOne_20 : decode cX10_lessOne 20 = .ok (.ifCond .ne 18, 3) := by decide +kernel
theorem dX10_lessOne_23 : decode cX10_lessOne 23 = .ok (.aload_n 0, 1) := by decide +kernel
theorem dX10_lessOne_24 : decode cX10_lessOne 24 = .ok (.getfield 19, 3) := by decide +kernel
theorem dX10_lessOne_27 : decode cX10_lessOne 27 = .ok (.iload_n 1, 1) := by decide +kernel
theorem dX10_lessOne_28 : decode cX10_lessOne 28 = .ok (.ldc2_w 23, 3) := by decide +kernel
theorem dX10_lessOne_31 : decode cX10_lessOne 31 = .ok (.lastore, 1) := by decide +kernel
theorem dX10_lessOne_32 : decode cX10_lessOne 32 = .ok (.iinc 1 1, 3) := by decide +kernel
theorem dX10_lessOne_35 : decode cX10_lessOne 35 = .ok (.goto (-33), 3) := by decide +kernel
theorem dX10_lessOne_38 : decode cX10_lessOne 38 = .ok (.iload_n 1, 1) := by decide +kernel
theorem dX10_lessOne_39 : decode cX10_lessOne 39 = .ok (.aload_n 0, 1) := by decide +kernel
theorem dX10_lessOne_40 : decode cX10_lessOne 40 = .ok (.getfield 9, 3) := by decide +kernel
theorem dX10_lessOne_43 : decode cX10_lessOne 43 = .ok (.if_icmp .ge 13, 3) := by decide +kernel
theorem dX10_lessOne_46 : decode cX10_lessOne 46 = .ok (.aload_n 0, 1) := by decide +kernel
theorem dX10_lessOne_47 : decode cX10_lessOne 47 = .ok (.getfield 19, 3) := by decide +kernel
theorem dX10_lessOne_50 : decode cX10_lessOne 50 = .ok (.iload_n 1, 1) := by decide +kernel
theorem dX10_lessOne_51 : decode cX10_lessOne 51 = .ok (.dup2, 1) := by decide +kernel
theorem dX10_lessOne_52 : decode cX10_lessOne 52 = .ok (.laload, 1) := by decide +kernel
theorem dX10_lessOne_53 : decode cX10_lessOne 53 = .ok (.lconst 1, 1) := by decide +kernel
theorem dX10_lessOne_54 : decode cX10_lessOne 54 = .ok (.lsub, 1) := by decide +kernel
theorem dX10_lessOne_55 : decode cX10_lessOne 55 = .ok (.lastore, 1) := by decide +kernel
theorem dX10_lessOne_56 : decode cX10_lessOne 56 = .ok (.aload_n 0, 1) := by decide +kernel
theorem dX10_lessOne_57 : decode cX10_lessOne 57 = .ok (.aload_n 0, 1) := by decide +kernel
theorem dX10_lessOne_58 : decode cX10_lessOne 58 = .ok (.getfield 9, 3) := by decide +kernel
theorem dX10_lessOne_61 : decode cX10_lessOne 61 = .ok (.invokevirtual 28, 3) := by decide +kernel
theorem dX10_lessOne_64 : decode cX10_lessOne 64 = .ok (.return_, 1) := by decide +kernel
theorem dX10_isAbove_0 : decode cX10_isAbove 0 = .ok (.aload_n 0, 1) := by decide +kernel
theorem dX10_isAbove_1 : decode cX10_isAbove 1 = .ok (.getfield 9, 3) := by decide +kernel
theorem dX10_isAbove_4 : decode cX10_isAbove 4 = .ok (.aload_n 1, 1) := by decide +kernel
theorem dX10_isAbove_5 : decode cX10_isAbove 5 = .ok (.getfield 9, 3) := by decide +kernel
theorem dX10_isAbove_8 : decode cX10_isAbove 8 = .ok (.if_icmp .eq 20, 3) := by decide +kernel
theorem dX10_isAbove_11 : decode cX10_isAbove 11 = .ok (.aload_n 0, 1) := by decide +kernel
theorem dX10_isAbove_12 : decode cX10_isAbove 12 = .ok (.getfield 9, 3) := by decide +kernel
theorem dX10_isAbove_15 : decode cX10_isAbove 15 = .ok (.aload_n 1, 1) := by decide +kernel
theorem dX10_isAbove_16 : decode cX10_isAbove 16 = .ok (.getfield 9, 3) := by decide +kernel
theorem dX10_isAbove_19 : decode cX10_isAbove 19 = .ok (.if_icmp .le 7, 3) := by decide +kernel
theorem dX10_isAbove_22 : decode cX10_isAbove 22 = .ok (.iconst 1, 1) := by decide +kernel
theorem dX10_isAbove_23 : decode cX10_isAbove 23 = .ok (.goto 4, 3) := by decide +kernel
theorem dX10_isAbove_26 : decode cX10_isAbove 26 = .ok (.iconst 0, 1) := by decide +kernel
theorem dX10_isAbove_27 : decode cX10_isAbove 27 = .ok (.ireturn, 1) := by decide +kernel
theorem dX10_isAbove_28 : decode cX10_isAbove 28 = .ok (.aload_n 0, 1) := by decide +kernel
theorem dX10_isAbove_29 : decode cX10_isAbove 29 = .ok (.getfield 9, 3) := by decide +kernel
theorem dX10_isAbove_32 : decode cX10_isAbove 32 = .ok (.iconst 1, 1) := by decide +kernel
theorem dX10_isAbove_33 : decode cX10_isAbove 33 = .ok (.isub, 1) := by decide +kernel
theorem dX10_isAbove_34 : decode cX10_isAbove 34 = .ok (.istore_n 2, 1) := by decide +kernel
theorem dX10_isAbove_35 : decode cX10_isAbove 35 = .ok (.iload_n 2, 1) := by decide +kernel
theorem dX10_isAbove_36 : decode cX10_isAbove 36 = .ok (.ifCond .lt 47, 3) := by decide +kernel
theorem dX10_isAbove_39 : decode cX10_isAbove 39 = .ok (.aload_n 0, 1) := by decide +kernel
theorem dX10_isAbove_40 : decode cX10_isAbove 40 = .ok (.getfield 19, 3) := by decide +kernel
theorem dX10_isAbove_43 : decode cX10_isAbove 43 = .ok (.iload_n 2, 1) := by decide +kernel
theorem dX10_isAbove_44 : decode cX10_isAbove 44 = .ok (.laload, 1) := by decide +kernel
theorem dX10_isAbove_45 : decode cX10_isAbove 45 = .ok (.aload_n 1, 1) := by decide +kernel
theorem dX10_isAbove_46 : decode cX10_isAbove 46 = .ok (.getfield 19, 3) := by decide +kernel
theorem dX10_isAbove_49 : decode cX10_isAbove 49 = .ok (.iload_n 2, 1) := by decide +kernel
theorem dX10_isAbove_50 : decode cX10_isAbove 50 = .ok (.laload, 1) := by decide +kernel
theorem dX10_isAbove_51 : decode cX10_isAbove 51 = .ok (.lcmp, 1) := by decide +kernel
theorem dX10_isAbove_52 : decode cX10_isAbove 52 = .ok (.ifCond .eq 25, 3) := by decide +kernel
theorem dX10_isAbove_55 : decode cX10_isAbove 55 = .ok (.aload_n 0, 1) := by decide +kernel
theorem dX10_isAbove_56 : decode cX10_isAbove 56 = .ok (.getfield 19, 3) := by decide +kernel
theorem dX10_isAbove_59 : decode cX10_isAbove 59 = .ok (.iload_n 2, 1) := by decide +kernel
theorem dX10_isAbove_60 : decode cX10_isAbove 60 = .ok (.laload, 1) := by decide +kernel
theorem dX10_isAbove_61 : decode cX10_isAbove 61 = .ok (.aload_n 1, 1) := by decide +kernel
theorem dX10_isAbove_62 : decode cX10_isAbove 62 = .ok (.getfield 19, 3) := by decide +kernel
theorem dX10_isAbove_65 : decode cX10_isAbove 65 = .ok (.iload_n 2, 1) := by decide +kernel
theorem dX10_isAbove_66 : decode cX10_isAbove 66 = .ok (.laload, 1) := by decide +kernel
theorem dX10_isAbove_67 : decode cX10_isAbove 67 = .ok (.lcmp, 1) := by decide +kernel
theorem dX10_isAbove_68 : decode cX10_isAbove 68 = .ok (.ifCond .le 7, 3) := by decide +kernel
theorem dX10_isAbove_71 : decode cX10_isAbove 71 = .ok (.iconst 1, 1) := by decide +kernel
theorem dX10_isAbove_72 : decode cX10_isAbove 72 = .ok (.goto 4, 3) := by decide +kernel
theorem dX10_isAbove_75 : decode cX10_isAbove 75 = .ok (.iconst 0, 1) := by decide +kernel
theorem dX10_isAbove_76 : decode cX10_isAbove 76 = .ok (.ireturn, 1) := by decide +kernel
theorem dX10_isAbove_77 : decode cX10_isAbove 77 = .ok (.iinc 2 (-1), 3) := by decide +kernel
theorem dX10_isAbove_80 : decode cX10_isAbove 80 = .ok (.goto (-45), 3) := by decide +kernel
theorem dX10_isAbove_83 : decode cX10_isAbove 83 = .ok (.iconst 0, 1) := by decide +kernel
theorem dX10_isAbove_84 : decode cX10_isAbove 84 = .ok (.ireturn, 1) := by decide +kernel
theorem dX10_carry_0 : decode cX10_carry 0 = .ok (.lconst 0, 1) := by decide +kernel
theorem dX10_carry_1 : decode cX10_carry 1 = .ok (.lstore_n 2, 1) := by decide +kernel
theorem dX10_carry_2 : decode cX10_carry 2 = .ok (.aload_n 0, 1) := by decide +kernel
theorem dX10_carry_3 : decode cX10_carry 3 = .ok (.iconst 0, 1) := by decide +kernel
theorem dX10_carry_4 : decode cX10_carry 4 = .ok (.putfield 9, 3) := by decide +kernel
theorem dX10_carry_7 : decode cX10_carry 7 = .ok (.iconst 0, 1) := by decide +kernel
theorem dX10_carry_8 : decode cX10_carry 8 = .ok (.istore 4, 2) := by decide +kernel
theorem dX10_carry_10 : decode cX10_carry 10 = .ok (.iload 4, 2) := by decide +kernel
theorem dX10_carry_12 : decode cX10_carry 12 = .ok (.iload_n 1, 1) := by decide +kernel
theorem dX10_carry_13 : decode cX10_carry 13 = .ok (.if_icmp .ge 66, 3) := by decide +kernel
theorem dX10_carry_16 : decode cX10_carry 16 = .ok (.aload_n 0, 1) := by decide +kernel
theorem dX10_carry_17 : decode cX10_carry 17 = .ok (.getfield 19, 3) := by decide +kernel
theorem dX10_carry_20 : decode cX10_carry 20 = .ok (.iload 4, 2) := by decide +kernel
theorem dX10_carry_22 : decode cX10_carry 22 = .ok (.laload, 1) := by decide +kernel
theorem dX10_carry_23 : decode cX10_carry 23 = .ok (.lload_n 2, 1) := by decide +kernel
theorem dX10_carry_24 : decode cX10_carry 24 = .ok (.ladd, 1) := by decide +kernel
theorem dX10_carry_25 : decode cX10_carry 25 = .ok (.lstore 5, 2) := by decide +kernel
theorem dX10_carry_27 : decode cX10_carry 27 = .ok (.aload_n 0, 1) := by decide +kernel
theorem dX10_carry_28 : decode cX10_carry 28 = .ok (.getfield 19, 3) := by decide +kernel
theorem dX10_carry_31 : decode cX10_carry 31 = .ok (.iload 4, 2) := by decide +kernel
theorem dX10_carry_33 : decode cX10_carry 33 = .ok (.lload 5, 2) := by decide +kernel
theorem dX10_carry_35 : decode cX10_carry 35 = .ok (.ldc2_w 23, 3) := by decide +kernel
theorem dX10_carry_38 : decode cX10_carry 38 = .ok (.land, 1) := by decide +kernel
theorem dX10_carry_39 : decode cX10_carry 39 = .ok (.lastore, 1) := by decide +kernel
theorem dX10_carry_40 : decode cX10_carry 40 = .ok (.lload 5, 2) := by decide +kernel
theorem dX10_carry_42 : decode cX10_carry 42 = .ok (.bipush 28, 2) := by decide +kernel
theorem dX10_carry_44 : decode cX10_carry 44 = .ok (.lushr, 1) := by decide +kernel
theorem dX10_carry_45 : decode cX10_carry 45 = .ok (.lstore_n 2, 1) := by decide +kernel
theorem dX10_carry_46 : decode cX10_carry 46 = .ok (.aload_n 0, 1) := by decide +kernel
theorem dX10_carry_47 : decode cX10_carry 47 = .ok (.aload_n 0, 1) := by decide +kernel
theorem dX10_carry_48 : decode cX10_carry 48 = .ok (.getfield 19, 3) := by decide +kernel
theorem dX10_carry_51 : decode cX10_carry 51 = .ok (.iload 4, 2) := by decide +kernel
theorem dX10_carry_53 : decode cX10_carry 53 = .ok (.laload, 1) := by decide +kernel
theorem dX10_carry_54 : decode cX10_carry 54 = .ok (.lconst 0, 1) := by decide +kernel
theorem dX10_carry_55 : decode cX10_carry 55 = .ok (.lcmp, 1) := by decide +kernel
theorem dX10_carry_56 : decode cX10_carry 56 = .ok (.ifCond .ne 10, 3) := by decide +kernel
theorem dX10_carry_59 : decode cX10_carry 59 = .ok (.aload_n 0, 1) := by decide +kernel
theorem dX10_carry_60 : decode cX10_carry 60 = .ok (.getfield 9, 3) := by decide +kernel
theorem dX10_carry_63 : decode cX10_carry 63 = .ok (.goto 7, 3) := by decide +kernel
theorem dX10_carry_66 : decode cX10_carry 66 = .ok (.iload 4, 2) := by decide +kernel
theorem dX10_carry_68 : decode cX10_carry 68 = .ok (.iconst 1, 1) := by decide +kernel
theorem dX10_carry_69 : decode cX10_carry 69 = .ok (.iadd, 1) := by decide +kernel
theorem dX10_carry_70 : decode cX10_carry 70 = .ok (.putfield 9, 3) := by decide +kernel
theorem dX10_carry_73 : decode cX10_carry 73 = .ok (.iinc 4 1, 3) := by decide +kernel
theorem dX10_carry_76 : decode cX10_carry 76 = .ok (.goto (-66), 3) := by decide +kernel
theorem dX10_carry_79 : decode cX10_carry 79 = .ok (.return_, 1) := by decide +kernel
theorem dJ9_abs_0f7a4_0 : decode cJ9_abs_0f7a4 0 = .ok (.iload_n 0, 1) := by decide +kernel
theorem dJ9_abs_0f7a4_1 : decode cJ9_abs_0f7a4 1 = .ok (.ifCond .ge 8, 3) := by decide +kernel
theorem dJ9_abs_0f7a4_4 : decode cJ9_abs_0f7a4 4 = .ok (.iload_n 0, 1) := by decide +kernel
theorem dJ9_abs_0f7a4_5 : decode cJ9_abs_0f7a4 5 = .ok (.ineg, 1) := by decide +kernel
theorem dJ9_abs_0f7a4_6 : decode cJ9_abs_0f7a4 6 = .ok (.goto 4, 3) := by decide +kernel
theorem dJ9_abs_0f7a4_9 : decode cJ9_abs_0f7a4 9 = .ok (.iload_n 0, 1) := by decide +kernel
theorem dJ9_abs_0f7a4_10 : decode cJ9_abs_0f7a4 10 = .ok (.ireturn, 1) := by decide +kernel
theorem dJ9_abs_067f4_0 : decode cJ9_abs_067f4 0 = .ok (.lload_n 0, 1) := by decide +kernel
theorem dJ9_abs_067f4_1 : decode cJ9_abs_067f4 1 = .ok (.lconst 0, 1) := by decide +kernel
theorem dJ9_abs_067f4_2 : decode cJ9_abs_067f4 2 = .ok (.lcmp, 1) := by decide +kernel
theorem dJ9_abs_067f4_3 : decode cJ9_abs_067f4 3 = .ok (.ifCond .ge 8, 3) := by decide +kernel
theorem dJ9_abs_067f4_6 : decode cJ9_abs_067f4 6 = .ok (.lload_n 0, 1) := by decide +kernel
theorem dJ9_abs_067f4_7 : decode cJ9_abs_067f4 7 = .ok (.lneg, 1) := by decide +kernel
theorem dJ9_abs_067f4_8 : decode cJ9_abs_067f4 8 = .ok (.goto 4, 3) := by decide +kernel
theorem dJ9_abs_067f4_11 : decode cJ9_abs_067f4 11 = .ok (.lload_n 0, 1) := by decide +kernel
theorem dJ9_abs_067f4_12 : decode cJ9_abs_067f4 12 = .ok (.lreturn, 1) := by decide +kernel
theorem dJ9_max_7cf53_0 : decode cJ9_max_7cf53 0 = .ok (.iload_n 0, 1) := by decide +kernel
theorem dJ9_max_7cf53_1 : decode cJ9_max_7cf53 1 = .ok (.iload_n 1, 1) := by decide +kernel
theorem dJ9_max_7cf53_2 : decode cJ9_max_7cf53 2 = .ok (.if_icmp .lt 7, 3) := by decide +kernel
theorem dJ9_max_7cf53_5 : decode cJ9_max_7cf53 5 = .ok (.iload_n 0, 1) := by decide +kernel
theorem dJ9_max_7cf53_6 : decode cJ9_max_7cf53 6 = .ok (.goto 4, 3) := by decide +kernel
theorem dJ9_max_7cf53_9 : decode cJ9_max_7cf53 9 = .ok (.iload_n 1, 1) := by decide +kernel
theorem dJ9_max_7cf53_10 : decode cJ9_max_7cf53 10 = .ok (.ireturn, 1) := by decide +kernel
theorem dJ9_min_7cf53_0 : decode cJ9_min_7cf53 0 = .ok (.iload_n 0, 1) := by decide +kernel
theorem dJ9_min_7cf53_1 : decode cJ9_min_7cf53 1 = .ok (.iload_n 1, 1) := by decide +kernel
theorem dJ9_min_7cf53_2 : decode cJ9_min_7cf53 2 = .ok (.if_icmp .gt 7, 3) := by decide +kernel
theorem dJ9_min_7cf53_5 : decode cJ9_min_7cf53 5 = .ok (.iload_n 0, 1) := by decide +kernel
theorem dJ9_min_7cf53_6 : decode cJ9_min_7cf53 6 = .ok (.goto 4, 3) := by decide +kernel
theorem dJ9_min_7cf53_9 : decode cJ9_min_7cf53 9 = .ok (.iload_n 1, 1) := by decide +kernel
theorem dJ9_min_7cf53_10 : decode cJ9_min_7cf53 10 = .ok (.ireturn, 1) := by decide +kernel
theorem dJ9_min_f86c9_0 : decode cJ9_min_f86c9 0 = .ok (.lload_n 0, 1) := by decide +kernel
theorem dJ9_min_f86c9_1 : decode cJ9_min_f86c9 1 = .ok (.lload_n 2, 1) := by decide +kernel
theorem dJ9_min_f86c9_2 : decode cJ9_min_f86c9 2 = .ok (.lcmp, 1) := by decide +kernel
theorem dJ9_min_f86c9_3 : decode cJ9_min_f86c9 3 = .ok (.ifCond .gt 7, 3) := by decide +kernel
theorem dJ9_min_f86c9_6 : decode cJ9_min_f86c9 6 = .ok (.lload_n 0, 1) := by decide +kernel
theorem dJ9_min_f86c9_7 : decode cJ9_min_f86c9 7 = .ok (.goto 4, 3) := by decide +kernel
theorem dJ9_min_f86c9_10 : decode cJ9_min_f86c9 10 = .ok (.lload_n 2, 1) := by decide +kernel
theorem dJ9_min_f86c9_11 : decode cJ9_min_f86c9 11 = .ok (.lreturn, 1) := by decide +kernel
theorem dJ7_rangeCheck_23922_0 : decode cJ7_rangeCheck_23922 0 = .ok (.iload_n 1, 1) := by decide +kernel
theorem dJ7_rangeCheck_23922_1 : decode cJ7_rangeCheck_23922 1 = .ok (.iload_n 2, 1) := by decide +kernel
theorem dJ7_rangeCheck_23922_2 : decode cJ7_rangeCheck_23922 2 = .ok (.if_icmp .le 44, 3) := by decide +kernel
theorem dJ7_rangeCheck_23922_5 : decode cJ7_rangeCheck_23922 5 = .ok (.new 43, 3) := by decide +kernel
theorem dJ7_rangeCheck_23922_8 : decode cJ7_rangeCheck_23922 8 = .ok (.dup, 1) := by decide +kernel
theorem dJ7_rangeCheck_23922_9 : decode cJ7_rangeCheck_23922 9 = .ok (.new 45, 3) := by decide +kernel
theorem dJ7_rangeCheck_23922_12 : decode cJ7_rangeCheck_23922 12 = .ok (.dup, 1) := by decide +kernel
theorem dJ7_rangeCheck_23922_13 : decode cJ7_rangeCheck_23922 13 = .ok (.invokespecial 47, 3) := by decide +kernel
theorem dJ7_rangeCheck_23922_16 : decode cJ7_rangeCheck_23922 16 = .ok (.ldc 48, 2) := by decide +kernel
theorem dJ7_rangeCheck_23922_18 : decode cJ7_rangeCheck_23922 18 = .ok (.invokevirtual 50, 3) := by decide +kernel
theorem dJ7_rangeCheck_23922_21 : decode cJ7_rangeCheck_23922 21 = .ok (.iload_n 1, 1) := by decide +kernel
theorem dJ7_rangeCheck_23922_22 : decode cJ7_rangeCheck_23922 22 = .ok (.invokevirtual 54, 3) := by decide +kernel
theorem dJ7_rangeCheck_23922_25 : decode cJ7_rangeCheck_23922 25 = .ok (.ldc 57, 2) := by decide +kernel
theorem dJ7_rangeCheck_23922_27 : decode cJ7_rangeCheck_23922 27 = .ok (.invokevirtual 50, 3) := by decide +kernel
theorem dJ7_rangeCheck_23922_30 : decode cJ7_rangeCheck_23922 30 = .ok (.iload_n 2, 1) := by decide +kernel
theorem dJ7_rangeCheck_23922_31 : decode cJ7_rangeCheck_23922 31 = .ok (.invokevirtual 54, 3) := by decide +kernel
theorem dJ7_rangeCheck_23922_34 : decode cJ7_rangeCheck_23922 34 = .ok (.ldc 59, 2) := by decide +kernel
theorem dJ7_rangeCheck_23922_36 : decode cJ7_rangeCheck_23922 36 = .ok (.invokevirtual 50, 3) := by decide +kernel
theorem dJ7_rangeCheck_23922_39 : decode cJ7_rangeCheck_23922 39 = .ok (.invokevirtual 61, 3) := by decide +kernel
theorem dJ7_rangeCheck_23922_42 : decode cJ7_rangeCheck_23922 42 = .ok (.invokespecial 65, 3) := by decide +kernel
theorem dJ7_rangeCheck_23922_45 : decode cJ7_rangeCheck_23922 45 = .ok (.athrow, 1) := by decide +kernel
theorem dJ7_rangeCheck_23922_46 : decode cJ7_rangeCheck_23922 46 = .ok (.iload_n 1, 1) := by decide +kernel
theorem dJ7_rangeCheck_23922_47 : decode cJ7_rangeCheck_23922 47 = .ok (.ifCond .ge 12, 3) := by decide +kernel
theorem dJ7_rangeCheck_23922_50 : decode cJ7_rangeCheck_23922 50 = .ok (.new 68, 3) := by decide +kernel
theorem dJ7_rangeCheck_23922_53 : decode cJ7_rangeCheck_23922 53 = .ok (.dup, 1) := by decide +kernel
theorem dJ7_rangeCheck_23922_54 : decode cJ7_rangeCheck_23922 54 = .ok (.iload_n 1, 1) := by decide +kernel
theorem dJ7_rangeCheck_23922_55 : decode cJ7_rangeCheck_23922 55 = .ok (.invokespecial 70, 3) := by decide +kernel
theorem dJ7_rangeCheck_23922_58 : decode cJ7_rangeCheck_23922 58 = .ok (.athrow, 1) := by decide +kernel
theorem dJ7_rangeCheck_23922_59 : decode cJ7_rangeCheck_23922 59 = .ok (.iload_n 2, 1) := by decide +kernel
theorem dJ7_rangeCheck_23922_60 : decode cJ7_rangeCheck_23922 60 = .ok (.iload_n 0, 1) := by decide +kernel
theorem dJ7_rangeCheck_23922_61 : decode cJ7_rangeCheck_23922 61 = .ok (.if_icmp .le 12, 3) := by decide +kernel
theorem dJ7_rangeCheck_23922_64 : decode cJ7_rangeCheck_23922 64 = .ok (.new 68, 3) := by decide +kernel
theorem dJ7_rangeCheck_23922_67 : decode cJ7_rangeCheck_23922 67 = .ok (.dup, 1) := by decide +kernel
theorem dJ7_rangeCheck_23922_68 : decode cJ7_rangeCheck_23922 68 = .ok (.iload_n 2, 1) := by decide +kernel
theorem dJ7_rangeCheck_23922_69 : decode cJ7_rangeCheck_23922 69 = .ok (.invokespecial 70, 3) := by decide +kernel
theorem dJ7_rangeCheck_23922_72 : decode cJ7_rangeCheck_23922 72 = .ok (.athrow, 1) := by decide +kernel
theorem dJ7_rangeCheck_23922_73 : decode cJ7_rangeCheck_23922 73 = .ok (.return_, 1) := by decide +kernel
theorem dJ7_fill_d0a16_0 : decode cJ7_fill_d0a16 0 = .ok (.iconst 0, 1) := by decide +kernel
theorem dJ7_fill_d0a16_1 : decode cJ7_fill_d0a16 1 = .ok (.istore_n 3, 1) := by decide +kernel
theorem dJ7_fill_d0a16_2 : decode cJ7_fill_d0a16 2 = .ok (.aload_n 0, 1) := by decide +kernel
theorem dJ7_fill_d0a16_3 : decode cJ7_fill_d0a16 3 = .ok (.arraylength, 1) := by decide +kernel
theorem dJ7_fill_d0a16_4 : decode cJ7_fill_d0a16 4 = .ok (.istore 4, 2) := by decide +kernel
theorem dJ7_fill_d0a16_6 : decode cJ7_fill_d0a16 6 = .ok (.iload_n 3, 1) := by decide +kernel
theorem dJ7_fill_d0a16_7 : decode cJ7_fill_d0a16 7 = .ok (.iload 4, 2) := by decide +kernel
theorem dJ7_fill_d0a16_9 : decode cJ7_fill_d0a16 9 = .ok (.if_icmp .ge 13, 3) := by decide +kernel
theorem dJ7_fill_d0a16_12 : decode cJ7_fill_d0a16 12 = .ok (.aload_n 0, 1) := by decide +kernel
theorem dJ7_fill_d0a16_13 : decode cJ7_fill_d0a16 13 = .ok (.iload_n 3, 1) := by decide +kernel
theorem dJ7_fill_d0a16_14 : decode cJ7_fill_d0a16 14 = .ok (.lload_n 1, 1) := by decide +kernel
theorem dJ7_fill_d0a16_15 : decode cJ7_fill_d0a16 15 = .ok (.lastore, 1) := by decide +kernel
theorem dJ7_fill_d0a16_16 : decode cJ7_fill_d0a16 16 = .ok (.iinc 3 1, 3) := by decide +kernel
theorem dJ7_fill_d0a16_19 : decode cJ7_fill_d0a16 19 = .ok (.goto (-13), 3) := by decide +kernel
theorem dJ7_fill_d0a16_22 : decode cJ7_fill_d0a16 22 = .ok (.return_, 1) := by decide +kernel
theorem dJ7_fill_bad5a_0 : decode cJ7_fill_bad5a 0 = .ok (.aload_n 0, 1) := by decide +kernel
theorem dJ7_fill_bad5a_1 : decode cJ7_fill_bad5a 1 = .ok (.arraylength, 1) := by decide +kernel
theorem dJ7_fill_bad5a_2 : decode cJ7_fill_bad5a 2 = .ok (.iload_n 1, 1) := by decide +kernel
theorem dJ7_fill_bad5a_3 : decode cJ7_fill_bad5a 3 = .ok (.iload_n 2, 1) := by decide +kernel
theorem dJ7_fill_bad5a_4 : decode cJ7_fill_bad5a 4 = .ok (.invokestatic 13, 3) := by decide +kernel
theorem dJ7_fill_bad5a_7 : decode cJ7_fill_bad5a 7 = .ok (.iload_n 1, 1) := by decide +kernel
theorem dJ7_fill_bad5a_8 : decode cJ7_fill_bad5a 8 = .ok (.istore 5, 2) := by decide +kernel
theorem dJ7_fill_bad5a_10 : decode cJ7_fill_bad5a 10 = .ok (.iload 5, 2) := by decide +kernel
theorem dJ7_fill_bad5a_12 : decode cJ7_fill_bad5a 12 = .ok (.iload_n 2, 1) := by decide +kernel
theorem dJ7_fill_bad5a_13 : decode cJ7_fill_bad5a 13 = .ok (.if_icmp .ge 14, 3) := by decide +kernel
theorem dJ7_fill_bad5a_16 : decode cJ7_fill_bad5a 16 = .ok (.aload_n 0, 1) := by decide +kernel
theorem dJ7_fill_bad5a_17 : decode cJ7_fill_bad5a 17 = .ok (.iload 5, 2) := by decide +kernel
theorem dJ7_fill_bad5a_19 : decode cJ7_fill_bad5a 19 = .ok (.lload_n 3, 1) := by decide +kernel
theorem dJ7_fill_bad5a_20 : decode cJ7_fill_bad5a 20 = .ok (.lastore, 1) := by decide +kernel
theorem dJ7_fill_bad5a_21 : decode cJ7_fill_bad5a 21 = .ok (.iinc 5 1, 3) := by decide +kernel
theorem dJ7_fill_bad5a_24 : decode cJ7_fill_bad5a 24 = .ok (.goto (-14), 3) := by decide +kernel
theorem dJ7_fill_bad5a_27 : decode cJ7_fill_bad5a 27 = .ok (.return_, 1) := by decide +kernel
theorem dJ7_copyOf_59c91_0 : decode cJ7_copyOf_59c91 0 = .ok (.iload_n 1, 1) := by decide +kernel
theorem dJ7_copyOf_59c91_1 : decode cJ7_copyOf_59c91 1 = .ok (.aload_n 0, 1) := by decide +kernel
theorem dJ7_copyOf_59c91_2 : decode cJ7_copyOf_59c91 2 = .ok (.arraylength, 1) := by decide +kernel
theorem dJ7_copyOf_59c91_3 : decode cJ7_copyOf_59c91 3 = .ok (.if_icmp .ne 11, 3) := by decide +kernel
theorem dJ7_copyOf_59c91_6 : decode cJ7_copyOf_59c91 6 = .ok (.aload_n 0, 1) := by decide +kernel
theorem dJ7_copyOf_59c91_7 : decode cJ7_copyOf_59c91 7 = .ok (.invokevirtual 316, 3) := by decide +kernel
theorem dJ7_copyOf_59c91_10 : decode cJ7_copyOf_59c91 10 = .ok (.checkcast 317, 3) := by decide +kernel
theorem dJ7_copyOf_59c91_13 : decode cJ7_copyOf_59c91 13 = .ok (.areturn, 1) := by decide +kernel
theorem dJ7_copyOf_59c91_14 : decode cJ7_copyOf_59c91 14 = .ok (.iload_n 1, 1) := by decide +kernel
theorem dJ7_copyOf_59c91_15 : decode cJ7_copyOf_59c91 15 = .ok (.newarray .int, 2) := by decide +kernel
theorem dJ7_copyOf_59c91_17 : decode cJ7_copyOf_59c91 17 = .ok (.astore_n 2, 1) := by decide +kernel
theorem dJ7_copyOf_59c91_18 : decode cJ7_copyOf_59c91 18 = .ok (.aload_n 0, 1) := by decide +kernel
theorem dJ7_copyOf_59c91_19 : decode cJ7_copyOf_59c91 19 = .ok (.iconst 0, 1) := by decide +kernel
theorem dJ7_copyOf_59c91_20 : decode cJ7_copyOf_59c91 20 = .ok (.aload_n 2, 1) := by decide +kernel
theorem dJ7_copyOf_59c91_21 : decode cJ7_copyOf_59c91 21 = .ok (.iconst 0, 1) := by decide +kernel
theorem dJ7_copyOf_59c91_22 : decode cJ7_copyOf_59c91 22 = .ok (.aload_n 0, 1) := by decide +kernel
theorem dJ7_copyOf_59c91_23 : decode cJ7_copyOf_59c91 23 = .ok (.arraylength, 1) := by decide +kernel
theorem dJ7_copyOf_59c91_24 : decode cJ7_copyOf_59c91 24 = .ok (.iload_n 1, 1) := by decide +kernel
theorem dJ7_copyOf_59c91_25 : decode cJ7_copyOf_59c91 25 = .ok (.invokestatic 304, 3) := by decide +kernel
theorem dJ7_copyOf_59c91_28 : decode cJ7_copyOf_59c91 28 = .ok (.invokestatic 150, 3) := by decide +kernel
theorem dJ7_copyOf_59c91_31 : decode cJ7_copyOf_59c91 31 = .ok (.aload_n 2, 1) := by decide +kernel
theorem dJ7_copyOf_59c91_32 : decode cJ7_copyOf_59c91 32 = .ok (.areturn, 1) := by decide +kernel
theorem dX11_init_0 : decode cX11_init 0 = .ok (.aload_n 0, 1) := by decide +kernel
theorem dX11_init_1 : decode cX11_init 1 = .ok (.invokespecial 3, 3) := by decide +kernel
theorem dX11_init_4 : decode cX11_init 4 = .ok (.aload_n 0, 1) := by decide +kernel
theorem dX11_init_5 : decode cX11_init 5 = .ok (.new 9, 3) := by decide +kernel
theorem dX11_init_8 : decode cX11_init 8 = .ok (.dup, 1) := by decide +kernel
theorem dX11_init_9 : decode cX11_init 9 = .ok (.invokespecial 11, 3) := by decide +kernel
theorem dX11_init_12 : decode cX11_init 12 = .ok (.putfield 12, 3) := by decide +kernel
theorem dX11_init_15 : decode cX11_init 15 = .ok (.aload_n 0, 1) := by decide +kernel
theorem dX11_init_16 : decode cX11_init 16 = .ok (.new 16, 3) := by decide +kernel
theorem dX11_init_19 : decode cX11_init 19 = .ok (.dup, 1) := by decide +kernel
theorem dX11_init_20 : decode cX11_init 20 = .ok (.invokespecial 18, 3) := by decide +kernel
theorem dX11_init_23 : decode cX11_init 23 = .ok (.putfield 19, 3) := by decide +kernel
theorem dX11_init_26 : decode cX11_init 26 = .ok (.aload_n 0, 1) := by decide +kernel
theorem dX11_init_27 : decode cX11_init 27 = .ok (.new 23, 3) := by decide +kernel
theorem dX11_init_30 : decode cX11_init 30 = .ok (.dup, 1) := by decide +kernel
theorem dX11_init_31 : decode cX11_init 31 = .ok (.invokespecial 25, 3) := by decide +kernel
theorem dX11_init_34 : decode cX11_init 34 = .ok (.putfield 26, 3) := by decide +kernel
theorem dX11_init_37 : decode cX11_init 37 = .ok (.aload_n 0, 1) := by decide +kernel
theorem dX11_init_38 : decode cX11_init 38 = .ok (.new 30, 3) := by decide +kernel
theorem dX11_init_41 : decode cX11_init 41 = .ok (.dup, 1) := by decide +kernel
theorem dX11_init_42 : decode cX11_init 42 = .ok (.invokespecial 32, 3) := by decide +kernel
theorem dX11_init_45 : decode cX11_init 45 = .ok (.putfield 33, 3) := by decide +kernel
theorem dX11_init_48 : decode cX11_init 48 = .ok (.aload_n 0, 1) := by decide +kernel
theorem dX11_init_49 : decode cX11_init 49 = .ok (.new 37, 3) := by decide +kernel
theorem dX11_init_52 : decode cX11_init 52 = .ok (.dup, 1) := by decide +kernel
theorem dX11_init_53 : decode cX11_init 53 = .ok (.invokespecial 39, 3) := by decide +kernel
theorem dX11_init_56 : decode cX11_init 56 = .ok (.putfield 40, 3) := by decide +kernel
theorem dX11_init_59 : decode cX11_init 59 = .ok (.aload_n 0, 1) := by decide +kernel
theorem dX11_init_60 : decode cX11_init 60 = .ok (.new 44, 3) := by decide +kernel
theorem dX11_init_63 : decode cX11_init 63 = .ok (.dup, 1) := by decide +kernel
theorem dX11_init_64 : decode cX11_init 64 = .ok (.invokespecial 46, 3) := by decide +kernel
theorem dX11_init_67 : decode cX11_init 67 = .ok (.putfield 47, 3) := by decide +kernel
theorem dX11_init_70 : decode cX11_init 70 = .ok (.aload_n 0, 1) := by decide +kernel
theorem dX11_init_71 : decode cX11_init 71 = .ok (.iconst 2, 1) := by decide +kernel
theorem dX11_init_72 : decode cX11_init 72 = .ok (.anewarray 51, 3) := by decide +kernel
theorem dX11_init_75 : decode cX11_init 75 = .ok (.putfield 53, 3) := by decide +kernel
theorem dX11_init_78 : decode cX11_init 78 = .ok (.aload_n 0, 1) := by decide +kernel
theorem dX11_init_79 : decode cX11_init 79 = .ok (.bipush 25, 2) := by decide +kernel
theorem dX11_init_81 : decode cX11_init 81 = .ok (.newarray .long, 2) := by decide +kernel
theorem dX11_init_83 : decode cX11_init 83 = .ok (.putfield 57, 3) := by decide +kernel
theorem dX11_init_86 : decode cX11_init 86 = .ok (.aload_n 0, 1) := by decide +kernel
theorem dX11_init_87 : decode cX11_init 87 = .ok (.bipush 25, 2) := by decide +kernel
theorem dX11_init_89 : decode cX11_init 89 = .ok (.newarray .long, 2) := by decide +kernel
theorem dX11_init_91 : decode cX11_init 91 = .ok (.putfield 61, 3) := by decide +kernel
theorem dX11_init_94 : decode cX11_init 94 = .ok (.aload_n 0, 1) := by decide +kernel
theorem dX11_init_95 : decode cX11_init 95 = .ok (.iconst 5, 1) := by decide +kernel
theorem dX11_init_96 : decode cX11_init 96 = .ok (.newarray .int, 2) := by decide +kernel
theorem dX11_init_98 : decode cX11_init 98 = .ok (.putfield 64, 3) := by decide +kernel
theorem dX11_init_101 : decode cX11_init 101 = .ok (.aload_n 0, 1) := by decide +kernel
theorem dX11_init_102 : decode cX11_init 102 = .ok (.new 51, 3) := by decide +kernel
theorem dX11_init_105 : decode cX11_init 105 = .ok (.dup, 1) := by decide +kernel
theorem dX11_init_106 : decode cX11_init 106 = .ok (.invokespecial 68, 3) := by decide +kernel
theorem dX11_init_109 : decode cX11_init 109 = .ok (.putfield 69, 3) := by decide +kernel
theorem dX11_init_112 : decode cX11_init 112 = .ok (.aload_n 0, 1) := by decide +kernel
theorem dX11_init_113 : decode cX11_init 113 = .ok (.iconst (-1), 1) := by decide +kernel
theorem dX11_init_114 : decode cX11_init 114 = .ok (.putfield 73, 3) := by decide +kernel
theorem dX11_init_117 : decode cX11_init 117 = .ok (.aload_n 0, 1) := by decide +kernel
theorem dX11_init_118 : decode cX11_init 118 = .ok (.iconst 0, 1) := by decide +kernel
theorem dX11_init_119 : decode cX11_init 119 = .ok (.putfield 77, 3) := by decide +kernel
theorem dX11_init_122 : decode cX11_init 122 = .ok (.return_, 1) := by decide +kernel
theorem dX11_feed_0 : decode cX11_feed 0 = .ok (.aload_n 0, 1) := by decide +kernel
theorem dX11_feed_1 : decode cX11_feed 1 = .ok (.getfield 12, 3) := by decide +kernel
theorem dX11_feed_4 : decode cX11_feed 4 = .ok (.bipush 20, 2) := by decide +kernel
theorem dX11_feed_6 : decode cX11_feed 6 = .ok (.invokevirtual 80, 3) := by decide +kernel
theorem dX11_feed_9 : decode cX11_feed 9 = .ok (.ifCond .ne 5, 3) := by decide +kernel
theorem dX11_feed_12 : decode cX11_feed 12 = .ok (.iconst (-1), 1) := by decide +kernel
theorem dX11_feed_13 : decode cX11_feed 13 = .ok (.ireturn, 1) := by decide +kernel
theorem dX11_feed_14 : decode cX11_feed 14 = .ok (.aload_n 0, 1) := by decide +kernel
theorem dX11_feed_15 : decode cX11_feed 15 = .ok (.getfield 12, 3) := by decide +kernel
theorem dX11_feed_18 : decode cX11_feed 18 = .ok (.iload_n 1, 1) := by decide +kernel
theorem dX11_feed_19 : decode cX11_feed 19 = .ok (.invokevirtual 84, 3) := by decide +kernel
theorem dX11_feed_22 : decode cX11_feed 22 = .ok (.aload_n 0, 1) := by decide +kernel
theorem dX11_feed_23 : decode cX11_feed 23 = .ok (.getfield 12, 3) := by decide +kernel
theorem dX11_feed_26 : decode cX11_feed 26 = .ok (.iload_n 2, 1) := by decide +kernel
theorem dX11_feed_27 : decode cX11_feed 27 = .ok (.invokevirtual 84, 3) := by decide +kernel
theorem dX11_feed_30 : decode cX11_feed 30 = .ok (.aload_n 0, 1) := by decide +kernel
theorem dX11_feed_31 : decode cX11_feed 31 = .ok (.getfield 12, 3) := by decide +kernel
theorem dX11_feed_34 : decode cX11_feed 34 = .ok (.iload_n 3, 1) := by decide +kernel
theorem dX11_feed_35 : decode cX11_feed 35 = .ok (.invokevirtual 84, 3) := by decide +kernel
theorem dX11_feed_38 : decode cX11_feed 38 = .ok (.aload_n 0, 1) := by decide +kernel
theorem dX11_feed_39 : decode cX11_feed 39 = .ok (.getfield 12, 3) := by decide +kernel
theorem dX11_feed_42 : decode cX11_feed 42 = .ok (.iload 4, 2) := by decide +kernel
theorem dX11_feed_44 : decode cX11_feed 44 = .ok (.invokevirtual 84, 3) := by decide +kernel
theorem dX11_feed_47 : decode cX11_feed 47 = .ok (.aload_n 0, 1) := by decide +kernel
theorem dX11_feed_48 : decode cX11_feed 48 = .ok (.getfield 12, 3) := by decide +kernel
theorem dX11_feed_51 : decode cX11_feed 51 = .ok (.iload 5, 2) := by decide +kernel
theorem dX11_feed_53 : decode cX11_feed 53 = .ok (.invokevirtual 84, 3) := by decide +kernel
theorem dX11_feed_56 : decode cX11_feed 56 = .ok (.aload_n 0, 1) := by decide +kernel
theorem dX11_feed_57 : decode cX11_feed 57 = .ok (.getfield 12, 3) := by decide +kernel
theorem dX11_feed_60 : decode cX11_feed 60 = .ok (.getfield 88, 3) := by decide +kernel
theorem dX11_feed_63 : decode cX11_feed 63 = .ok (.ireturn, 1) := by decide +kernel
theorem dX11_end_0 : decode cX11_end 0 = .ok (.iload_n 1, 1) := by decide +kernel
theorem dX11_end_1 : decode cX11_end 1 = .ok (.ifCond .lt 14, 3) := by decide +kernel
theorem dX11_end_4 : decode cX11_end 4 = .ok (.iload_n 1, 1) := by decide +kernel
theorem dX11_end_5 : decode cX11_end 5 = .ok (.aload_n 0, 1) := by decide +kernel
theorem dX11_end_6 : decode cX11_end 6 = .ok (.getfield 12, 3) := by decide +kernel
theorem dX11_end_9 : decode cX11_end 9 = .ok (.getfield 88, 3) := by decide +kernel
theorem dX11_end_12 : decode cX11_end 12 = .ok (.if_icmp .le 5, 3) := by decide +kernel
theorem dX11_end_15 : decode cX11_end 15 = .ok (.iconst (-1), 1) := by decide +kernel
theorem dX11_end_16 : decode cX11_end 16 = .ok (.ireturn, 1) := by decide +kernel
theorem dX11_end_17 : decode cX11_end 17 = .ok (.aload_n 0, 1) := by decide +kernel
theorem dX11_end_18 : decode cX11_end 18 = .ok (.getfield 12, 3) := by decide +kernel
theorem dX11_end_21 : decode cX11_end 21 = .ok (.iload_n 1, 1) := by decide +kernel
theorem dX11_end_22 : decode cX11_end 22 = .ok (.putfield 88, 3) := by decide +kernel
theorem dX11_end_25 : decode cX11_end 25 = .ok (.iload_n 1, 1) := by decide +kernel
theorem dX11_end_26 : decode cX11_end 26 = .ok (.ireturn, 1) := by decide +kernel
theorem dX11_tape_0 : decode cX11_tape 0 = .ok (.aload_n 0, 1) := by decide +kernel
theorem dX11_tape_1 : decode cX11_tape 1 = .ok (.getfield 12, 3) := by decide +kernel
theorem dX11_tape_4 : decode cX11_tape 4 = .ok (.iload_n 1, 1) := by decide +kernel
theorem dX11_tape_5 : decode cX11_tape 5 = .ok (.invokevirtual 91, 3) := by decide +kernel
theorem dX11_tape_8 : decode cX11_tape 8 = .ok (.ireturn, 1) := by decide +kernel
theorem dX11_read_0 : decode cX11_read 0 = .ok (.iload_n 1, 1) := by decide +kernel
theorem dX11_read_1 : decode cX11_read 1 = .ok (.invokestatic 95, 3) := by decide +kernel
theorem dX11_read_4 : decode cX11_read 4 = .ok (.ifCond .ne 10, 3) := by decide +kernel
theorem dX11_read_7 : decode cX11_read 7 = .ok (.aload_n 0, 1) := by decide +kernel
theorem dX11_read_8 : decode cX11_read 8 = .ok (.bipush (-2), 2) := by decide +kernel
theorem dX11_read_10 : decode cX11_read 10 = .ok (.invokevirtual 98, 3) := by decide +kernel
theorem dX11_read_13 : decode cX11_read 13 = .ok (.ireturn, 1) := by decide +kernel
theorem dX11_read_14 : decode cX11_read 14 = .ok (.aload_n 0, 1) := by decide +kernel
theorem dX11_read_15 : decode cX11_read 15 = .ok (.aload_n 0, 1) := by decide +kernel
theorem dX11_read_16 : decode cX11_read 16 = .ok (.getfield 12, 3) := by decide +kernel
theorem dX11_read_19 : decode cX11_read 19 = .ok (.aload_n 0, 1) := by decide +kernel
theorem dX11_read_20 : decode cX11_read 20 = .ok (.getfield 57, 3) := by decide +kernel
theorem dX11_read_23 : decode cX11_read 23 = .ok (.invokestatic 101, 3) := by decide +kernel
theorem dX11_read_26 : decode cX11_read 26 = .ok (.putfield 73, 3) := by decide +kernel
theorem dX11_read_29 : decode cX11_read 29 = .ok (.aload_n 0, 1) := by decide +kernel
theorem dX11_read_30 : decode cX11_read 30 = .ok (.getfield 12, 3) := by decide +kernel
theorem dX11_read_33 : decode cX11_read 33 = .ok (.iconst 0, 1) := by decide +kernel
theorem dX11_read_34 : decode cX11_read 34 = .ok (.putfield 88, 3) := by decide +kernel
theorem dX11_read_37 : decode cX11_read 37 = .ok (.aload_n 0, 1) := by decide +kernel
theorem dX11_read_38 : decode cX11_read 38 = .ok (.getfield 73, 3) := by decide +kernel
theorem dX11_read_41 : decode cX11_read 41 = .ok (.iconst (-1), 1) := by decide +kernel
theorem dX11_read_42 : decode cX11_read 42 = .ok (.if_icmp .ne 12, 3) := by decide +kernel
theorem dX11_read_45 : decode cX11_read 45 = .ok (.aload_n 0, 1) := by decide +kernel
theorem dX11_read_46 : decode cX11_read 46 = .ok (.iconst 0, 1) := by decide +kernel
theorem dX11_read_47 : decode cX11_read 47 = .ok (.iload_n 1, 1) := by decide +kernel
theorem dX11_read_48 : decode cX11_read 48 = .ok (.invokevirtual 107, 3) := by decide +kernel
theorem dX11_read_51 : decode cX11_read 51 = .ok (.goto 9, 3) := by decide +kernel
theorem dX11_read_54 : decode cX11_read 54 = .ok (.aload_n 0, 1) := by decide +kernel
theorem dX11_read_55 : decode cX11_read 55 = .ok (.bipush (-6), 2) := by decide +kernel
theorem dX11_read_57 : decode cX11_read 57 = .ok (.invokevirtual 98, 3) := by decide +kernel
theorem dX11_read_60 : decode cX11_read 60 = .ok (.ireturn, 1) := by decide +kernel
theorem dX11_fault_0 : decode cX11_fault 0 = .ok (.aload_n 0, 1) := by decide +kernel
theorem dX11_fault_1 : decode cX11_fault 1 = .ok (.getfield 73, 3) := by decide +kernel
theorem dX11_fault_4 : decode cX11_fault 4 = .ok (.ireturn, 1) := by decide +kernel
theorem dX11_listing_0 : decode cX11_listing 0 = .ok (.iload_n 1, 1) := by decide +kernel
theorem dX11_listing_1 : decode cX11_listing 1 = .ok (.invokestatic 95, 3) := by decide +kernel
theorem dX11_listing_4 : decode cX11_listing 4 = .ok (.ifCond .ne 10, 3) := by decide +kernel
theorem dX11_listing_7 : decode cX11_listing 7 = .ok (.aload_n 0, 1) := by decide +kernel
theorem dX11_listing_8 : decode cX11_listing 8 = .ok (.bipush (-2), 2) := by decide +kernel
theorem dX11_listing_10 : decode cX11_listing 10 = .ok (.invokevirtual 98, 3) := by decide +kernel
theorem dX11_listing_13 : decode cX11_listing 13 = .ok (.ireturn, 1) := by decide +kernel
theorem dX11_listing_14 : decode cX11_listing 14 = .ok (.aload_n 0, 1) := by decide +kernel
theorem dX11_listing_15 : decode cX11_listing 15 = .ok (.getfield 69, 3) := by decide +kernel
theorem dX11_listing_18 : decode cX11_listing 18 = .ok (.iload_n 1, 1) := by decide +kernel
theorem dX11_listing_19 : decode cX11_listing 19 = .ok (.invokevirtual 111, 3) := by decide +kernel
theorem dX11_listing_22 : decode cX11_listing 22 = .ok (.aload_n 0, 1) := by decide +kernel
theorem dX11_listing_23 : decode cX11_listing 23 = .ok (.getfield 12, 3) := by decide +kernel
theorem dX11_listing_26 : decode cX11_listing 26 = .ok (.invokestatic 115, 3) := by decide +kernel
theorem dX11_listing_29 : decode cX11_listing 29 = .ok (.aload_n 0, 1) := by decide +kernel
theorem dX11_listing_30 : decode cX11_listing 30 = .ok (.aload_n 0, 1) := by decide +kernel
theorem dX11_listing_31 : decode cX11_listing 31 = .ok (.getfield 12, 3) := by decide +kernel
theorem dX11_listing_34 : decode cX11_listing 34 = .ok (.getfield 88, 3) := by decide +kernel
theorem dX11_listing_37 : decode cX11_listing 37 = .ok (.invokevirtual 119, 3) := by decide +kernel
theorem dX11_listing_40 : decode cX11_listing 40 = .ok (.ireturn, 1) := by decide +kernel
theorem dX11_times_0 : decode cX11_times 0 = .ok (.iload_n 1, 1) := by decide +kernel
theorem dX11_times_1 : decode cX11_times 1 = .ok (.invokestatic 95, 3) := by decide +kernel
theorem dX11_times_4 : decode cX11_times 4 = .ok (.ifCond .eq 17, 3) := by decide +kernel
theorem dX11_times_7 : decode cX11_times 7 = .ok (.iload_n 2, 1) := by decide +kernel
theorem dX11_times_8 : decode cX11_times 8 = .ok (.invokestatic 95, 3) := by decide +kernel
theorem dX11_times_11 : decode cX11_times 11 = .ok (.ifCond .eq 10, 3) := by decide +kernel
theorem dX11_times_14 : decode cX11_times 14 = .ok (.iload_n 3, 1) := by decide +kernel
theorem dX11_times_15 : decode cX11_times 15 = .ok (.invokestatic 95, 3) := by decide +kernel
theorem dX11_times_18 : decode cX11_times 18 = .ok (.ifCond .ne 10, 3) := by decide +kernel
theorem dX11_times_21 : decode cX11_times 21 = .ok (.aload_n 0, 1) := by decide +kernel
theorem dX11_times_22 : decode cX11_times 22 = .ok (.bipush (-2), 2) := by decide +kernel
theorem dX11_times_24 : decode cX11_times 24 = .ok (.invokevirtual 98, 3) := by decide +kernel
theorem dX11_times_27 : decode cX11_times 27 = .ok (.ireturn, 1) := by decide +kernel
theorem dX11_times_28 : decode cX11_times 28 = .ok (.aload_n 0, 1) := by decide +kernel
theorem dX11_times_29 : decode cX11_times 29 = .ok (.getfield 69, 3) := by decide +kernel
theorem dX11_times_32 : decode cX11_times 32 = .ok (.iload_n 1, 1) := by decide +kernel
theorem dX11_times_33 : decode cX11_times 33 = .ok (.invokevirtual 111, 3) := by decide +kernel
theorem dX11_times_36 : decode cX11_times 36 = .ok (.aload_n 0, 1) := by decide +kernel
theorem dX11_times_37 : decode cX11_times 37 = .ok (.getfield 69, 3) := by decide +kernel
theorem dX11_times_40 : decode cX11_times 40 = .ok (.iload_n 2, 1) := by decide +kernel
theorem dX11_times_41 : decode cX11_times 41 = .ok (.invokevirtual 111, 3) := by decide +kernel
theorem dX11_times_44 : decode cX11_times 44 = .ok (.aload_n 0, 1) := by decide +kernel
theorem dX11_times_45 : decode cX11_times 45 = .ok (.getfield 57, 3) := by decide +kernel
theorem dX11_times_48 : decode cX11_times 48 = .ok (.invokevirtual 122, 3) := by decide +kernel
theorem dX11_times_51 : decode cX11_times 51 = .ok (.aload_n 0, 1) := by decide +kernel
theorem dX11_times_52 : decode cX11_times 52 = .ok (.iconst 1, 1) := by decide +kernel
theorem dX11_times_53 : decode cX11_times 53 = .ok (.iload_n 3, 1) := by decide +kernel
theorem dX11_times_54 : decode cX11_times 54 = .ok (.invokevirtual 107, 3) := by decide +kernel
theorem dX11_times_57 : decode cX11_times 57 = .ok (.ireturn, 1) := by decide +kernel
theorem dX11_by_0 : decode cX11_by 0 = .ok (.iload_n 1, 1) := by decide +kernel
theorem dX11_by_1 : decode cX11_by 1 = .ok (.invokestatic 95, 3) := by decide +kernel
theorem dX11_by_4 : decode cX11_by 4 = .ok (.ifCond .eq 17, 3) := by decide +kernel
theorem dX11_by_7 : decode cX11_by 7 = .ok (.iload_n 2, 1) := by decide +kernel
theorem dX11_by_8 : decode cX11_by 8 = .ok (.invokestatic 95, 3) := by decide +kernel
theorem dX11_by_11 : decode cX11_by 11 = .ok (.ifCond .eq 10, 3) := by decide +kernel
theorem dX11_by_14 : decode cX11_by 14 = .ok (.iload_n 3, 1) := by decide +kernel
theorem dX11_by_15 : decode cX11_by 15 = .ok (.invokestatic 95, 3) := by decide +kernel
theorem dX11_by_18 : decode cX11_by 18 = .ok (.ifCond .ne 10, 3) := by decide +kernel
theorem dX11_by_21 : decode cX11_by 21 = .ok (.aload_n 0, 1) := by decide +kernel
theorem dX11_by_22 : decode cX11_by 22 = .ok (.bipush (-2), 2) := by decide +kernel
theorem dX11_by_24 : decode cX11_by 24 = .ok (.invokevirtual 98, 3) := by decide +kernel
theorem dX11_by_27 : decode cX11_by 27 = .ok (.ireturn, 1) := by decide +kernel
theorem dX11_by_28 : decode cX11_by 28 = .ok (.aload_n 0, 1) := by decide +kernel
theorem dX11_by_29 : decode cX11_by 29 = .ok (.getfield 69, 3) := by decide +kernel
theorem dX11_by_32 : decode cX11_by 32 = .ok (.iload_n 1, 1) := by decide +kernel
theorem dX11_by_33 : decode cX11_by 33 = .ok (.invokevirtual 111, 3) := by decide +kernel
theorem dX11_by_36 : decode cX11_by 36 = .ok (.astore 4, 2) := by decide +kernel
theorem dX11_by_38 : decode cX11_by 38 = .ok (.aload 4, 2) := by decide +kernel
theorem dX11_by_40 : decode cX11_by 40 = .ok (.aload_n 0, 1) := by decide +kernel
theorem dX11_by_41 : decode cX11_by 41 = .ok (.getfield 61, 3) := by decide +kernel
theorem dX11_by_44 : decode cX11_by 44 = .ok (.invokevirtual 128, 3) := by decide +kernel
theorem dX11_by_47 : decode cX11_by 47 = .ok (.aload_n 0, 1) := by decide +kernel
theorem dX11_by_48 : decode cX11_by 48 = .ok (.getfield 69, 3) := by decide +kernel
theorem dX11_by_51 : decode cX11_by 51 = .ok (.iload_n 2, 1) := by decide +kernel
theorem dX11_by_52 : decode cX11_by 52 = .ok (.invokevirtual 111, 3) := by decide +kernel
theorem dX11_by_55 : decode cX11_by 55 = .ok (.aload_n 0, 1) := by decide +kernel
theorem dX11_by_56 : decode cX11_by 56 = .ok (.getfield 61, 3) := by decide +kernel
theorem dX11_by_59 : decode cX11_by 59 = .ok (.aload 4, 2) := by decide +kernel
theorem dX11_by_61 : decode cX11_by 61 = .ok (.getfield 132, 3) := by decide +kernel
theorem dX11_by_64 : decode cX11_by 64 = .ok (.aload_n 0, 1) := by decide +kernel
theorem dX11_by_65 : decode cX11_by 65 = .ok (.getfield 57, 3) := by decide +kernel
theorem dX11_by_68 : decode cX11_by 68 = .ok (.invokevirtual 135, 3) := by decide +kernel
theorem dX11_by_71 : decode cX11_by 71 = .ok (.ifCond .ne 10, 3) := by decide +kernel
theorem dX11_by_74 : decode cX11_by 74 = .ok (.aload_n 0, 1) := by decide +kernel
theorem dX11_by_75 : decode cX11_by 75 = .ok (.bipush (-4), 2) := by decide +kernel
theorem dX11_by_77 : decode cX11_by 77 = .ok (.invokevirtual 98, 3) := by decide +kernel
theorem dX11_by_80 : decode cX11_by 80 = .ok (.ireturn, 1) := by decide +kernel
theorem dX11_by_81 : decode cX11_by 81 = .ok (.aload_n 0, 1) := by decide +kernel
theorem dX11_by_82 : decode cX11_by 82 = .ok (.iconst 2, 1) := by decide +kernel
theorem dX11_by_83 : decode cX11_by 83 = .ok (.iload_n 3, 1) := by decide +kernel
theorem dX11_by_84 : decode cX11_by 84 = .ok (.invokevirtual 107, 3) := by decide +kernel
theorem dX11_by_87 : decode cX11_by 87 = .ok (.ireturn, 1) := by decide +kernel
theorem dX11_plus_0 : decode cX11_plus 0 = .ok (.iload_n 1, 1) := by decide +kernel
theorem dX11_plus_1 : decode cX11_plus 1 = .ok (.ifCond .lt 8, 3) := by decide +kernel
theorem dX11_plus_4 : decode cX11_plus 4 = .ok (.iload_n 1, 1) := by decide +kernel
theorem dX11_plus_5 : decode cX11_plus 5 = .ok (.iconst 1, 1) := by decide +kernel
theorem dX11_plus_6 : decode cX11_plus 6 = .ok (.if_icmp .le 9, 3) := by decide +kernel
theorem dX11_plus_9 : decode cX11_plus 9 = .ok (.aload_n 0, 1) := by decide +kernel
theorem dX11_plus_10 : decode cX11_plus 10 = .ok (.iconst (-1), 1) := by decide +kernel
theorem dX11_plus_11 : decode cX11_plus 11 = .ok (.invokevirtual 98, 3) := by decide +kernel
theorem dX11_plus_14 : decode cX11_plus 14 = .ok (.ireturn, 1) := by decide +kernel
theorem dX11_plus_15 : decode cX11_plus 15 = .ok (.iload_n 2, 1) := by decide +kernel
theorem dX11_plus_16 : decode cX11_plus 16 = .ok (.invokestatic 95, 3) := by decide +kernel
theorem dX11_plus_19 : decode cX11_plus 19 = .ok (.ifCond .eq 18, 3) := by decide +kernel
theorem dX11_plus_22 : decode cX11_plus 22 = .ok (.iload_n 3, 1) := by decide +kernel
theorem dX11_plus_23 : decode cX11_plus 23 = .ok (.invokestatic 95, 3) := by decide +kernel
theorem dX11_plus_26 : decode cX11_plus 26 = .ok (.ifCond .eq 11, 3) := by decide +kernel
theorem dX11_plus_29 : decode cX11_plus 29 = .ok (.iload 4, 2) := by decide +kernel
theorem dX11_plus_31 : decode cX11_plus 31 = .ok (.invokestatic 95, 3) := by decide +kernel
theorem dX11_plus_34 : decode cX11_plus 34 = .ok (.ifCond .ne 10, 3) := by decide +kernel
theorem dX11_plus_37 : decode cX11_plus 37 = .ok (.aload_n 0, 1) := by decide +kernel
theorem dX11_plus_38 : decode cX11_plus 38 = .ok (.bipush (-2), 2) := by decide +kernel
theorem dX11_plus_40 : decode cX11_plus 40 = .ok (.invokevirtual 98, 3) := by decide +kernel
theorem dX11_plus_43 : decode cX11_plus 43 = .ok (.ireturn, 1) := by decide +kernel
theorem dX11_plus_44 : decode cX11_plus 44 = .ok (.aload_n 0, 1) := by decide +kernel
theorem dX11_plus_45 : decode cX11_plus 45 = .ok (.getfield 69, 3) := by decide +kernel
theorem dX11_plus_48 : decode cX11_plus 48 = .ok (.iload_n 3, 1) := by decide +kernel
theorem dX11_plus_49 : decode cX11_plus 49 = .ok (.invokevirtual 111, 3) := by decide +kernel
theorem dX11_plus_52 : decode cX11_plus 52 = .ok (.astore 5, 2) := by decide +kernel
theorem dX11_plus_54 : decode cX11_plus 54 = .ok (.aload_n 0, 1) := by decide +kernel
theorem dX11_plus_55 : decode cX11_plus 55 = .ok (.getfield 69, 3) := by decide +kernel
theorem dX11_plus_58 : decode cX11_plus 58 = .ok (.iload_n 2, 1) := by decide +kernel
theorem dX11_plus_59 : decode cX11_plus 59 = .ok (.invokevirtual 111, 3) := by decide +kernel
theorem dX11_plus_62 : decode cX11_plus 62 = .ok (.aload_n 0, 1) := by decide +kernel
theorem dX11_plus_63 : decode cX11_plus 63 = .ok (.getfield 57, 3) := by decide +kernel
theorem dX11_plus_66 : decode cX11_plus 66 = .ok (.invokevirtual 128, 3) := by decide +kernel
theorem dX11_plus_69 : decode cX11_plus 69 = .ok (.iconst 0, 1) := by decide +kernel
theorem dX11_plus_70 : decode cX11_plus 70 = .ok (.istore 6, 2) := by decide +kernel
theorem dX11_plus_72 : decode cX11_plus 72 = .ok (.iload 6, 2) := by decide +kernel
theorem dX11_plus_74 : decode cX11_plus 74 = .ok (.aload 5, 2) := by decide +kernel
theorem dX11_plus_76 : decode cX11_plus 76 = .ok (.getfield 132, 3) := by decide +kernel
theorem dX11_plus_79 : decode cX11_plus 79 = .ok (.if_icmp .gt 45, 3) := by decide +kernel
theorem dX11_plus_82 : decode cX11_plus 82 = .ok (.aload_n 0, 1) := by decide +kernel
theorem dX11_plus_83 : decode cX11_plus 83 = .ok (.getfield 57, 3) := by decide +kernel
theorem dX11_plus_86 : decode cX11_plus 86 = .ok (.iload 6, 2) := by decide +kernel
theorem dX11_plus_88 : decode cX11_plus 88 = .ok (.dup2, 1) := by decide +kernel
theorem dX11_plus_89 : decode cX11_plus 89 = .ok (.laload, 1) := by decide +kernel
theorem dX11_plus_90 : decode cX11_plus 90 = .ok (.iload_n 1, 1) := by decide +kernel
theorem dX11_plus_91 : decode cX11_plus 91 = .ok (.ifCond .ne 15, 3) := by decide +kernel
theorem dX11_plus_94 : decode cX11_plus 94 = .ok (.aload 5, 2) := by decide +kernel
theorem dX11_plus_96 : decode cX11_plus 96 = .ok (.getfield 139, 3) := by decide +kernel
theorem dX11_plus_99 : decode cX11_plus 99 = .ok (.iload 6, 2) := by decide +kernel
theorem dX11_plus_101 : decode cX11_plus 101 = .ok (.iaload, 1) := by decide +kernel
theorem dX11_plus_102 : decode cX11_plus 102 = .ok (.i2l, 1) := by decide +kernel
theorem dX11_plus_103 : decode cX11_plus 103 = .ok (.goto 13, 3) := by decide +kernel
theorem dX11_plus_106 : decode cX11_plus 106 = .ok (.aload 5, 2) := by decide +kernel
theorem dX11_plus_108 : decode cX11_plus 108 = .ok (.getfield 139, 3) := by decide +kernel
theorem dX11_plus_111 : decode cX11_plus 111 = .ok (.iload 6, 2) := by decide +kernel
theorem dX11_plus_113 : decode cX11_plus 113 = .ok (.iaload, 1) := by decide +kernel
theorem dX11_plus_114 : decode cX11_plus 114 = .ok (.ineg, 1) := by decide +kernel
theorem dX11_plus_115 : decode cX11_plus 115 = .ok (.i2l, 1) := by decide +kernel
theorem dX11_plus_116 : decode cX11_plus 116 = .ok (.ladd, 1) := by decide +kernel
theorem dX11_plus_117 : decode cX11_plus 117 = .ok (.lastore, 1) := by decide +kernel
theorem dX11_plus_118 : decode cX11_plus 118 = .ok (.iinc 6 1, 3) := by decide +kernel
theorem dX11_plus_121 : decode cX11_plus 121 = .ok (.goto (-49), 3) := by decide +kernel
theorem dX11_plus_124 : decode cX11_plus 124 = .ok (.aload_n 0, 1) := by decide +kernel
theorem dX11_plus_125 : decode cX11_plus 125 = .ok (.iconst 3, 1) := by decide +kernel
theorem dX11_plus_126 : decode cX11_plus 126 = .ok (.iload 4, 2) := by decide +kernel
theorem dX11_plus_128 : decode cX11_plus 128 = .ok (.invokevirtual 107, 3) := by decide +kernel
theorem dX11_plus_131 : decode cX11_plus 131 = .ok (.ireturn, 1) := by decide +kernel
theorem dX11_turn_0 : decode cX11_turn 0 = .ok (.iload_n 1, 1) := by decide +kernel
theorem dX11_turn_1 : decode cX11_turn 1 = .ok (.ifCond .lt 8, 3) := by decide +kernel
theorem dX11_turn_4 : decode cX11_turn 4 = .ok (.iload_n 1, 1) := by decide +kernel
theorem dX11_turn_5 : decode cX11_turn 5 = .ok (.iconst 5, 1) := by decide +kernel
theorem dX11_turn_6 : decode cX11_turn 6 = .ok (.if_icmp .le 9, 3) := by decide +kernel
theorem dX11_turn_9 : decode cX11_turn 9 = .ok (.aload_n 0, 1) := by decide +kernel
theorem dX11_turn_10 : decode cX11_turn 10 = .ok (.iconst (-1), 1) := by decide +kernel
theorem dX11_turn_11 : decode cX11_turn 11 = .ok (.invokevirtual 98, 3) := by decide +kernel
theorem dX11_turn_14 : decode cX11_turn 14 = .ok (.ireturn, 1) := by decide +kernel
theorem dX11_turn_15 : decode cX11_turn 15 = .ok (.iload_n 2, 1) := by decide +kernel
theorem dX11_turn_16 : decode cX11_turn 16 = .ok (.invokestatic 95, 3) := by decide +kernel
theorem dX11_turn_19 : decode cX11_turn 19 = .ok (.ifCond .eq 10, 3) := by decide +kernel
theorem dX11_turn_22 : decode cX11_turn 22 = .ok (.iload_n 3, 1) := by decide +kernel
theorem dX11_turn_23 : decode cX11_turn 23 = .ok (.invokestatic 95, 3) := by decide +kernel
theorem dX11_turn_26 : decode cX11_turn 26 = .ok (.ifCond .ne 10, 3) := by decide +kernel
theorem dX11_turn_29 : decode cX11_turn 29 = .ok (.aload_n 0, 1) := by decide +kernel
theorem dX11_turn_30 : decode cX11_turn 30 = .ok (.bipush (-2), 2) := by decide +kernel
theorem dX11_turn_32 : decode cX11_turn 32 = .ok (.invokevirtual 98, 3) := by decide +kernel
theorem dX11_turn_35 : decode cX11_turn 35 = .ok (.ireturn, 1) := by decide +kernel
theorem dX11_turn_36 : decode cX11_turn 36 = .ok (.aload_n 0, 1) := by decide +kernel
theorem dX11_turn_37 : decode cX11_turn 37 = .ok (.getfield 69, 3) := by decide +kernel
theorem dX11_turn_40 : decode cX11_turn 40 = .ok (.iload_n 2, 1) := by decide +kernel
theorem dX11_turn_41 : decode cX11_turn 41 = .ok (.invokevirtual 111, 3) := by decide +kernel
theorem dX11_turn_44 : decode cX11_turn 44 = .ok (.astore 4, 2) := by decide +kernel
theorem dX11_turn_46 : decode cX11_turn 46 = .ok (.iload_n 1, 1) := by decide +kernel
theorem dX11_turn_47 : decode cX11_turn 47 = .ok (.iconst 5, 1) := by decide +kernel
theorem dX11_turn_48 : decode cX11_turn 48 = .ok (.if_icmp .ge 16, 3) := by decide +kernel
theorem dX11_turn_51 : decode cX11_turn 51 = .ok (.aload 4, 2) := by decide +kernel
theorem dX11_turn_53 : decode cX11_turn 53 = .ok (.iload_n 1, 1) := by decide +kernel
theorem dX11_turn_54 : decode cX11_turn 54 = .ok (.aload_n 0, 1) := by decide +kernel
theorem dX11_turn_55 : decode cX11_turn 55 = .ok (.getfield 57, 3) := by decide +kernel
theorem dX11_turn_58 : decode cX11_turn 58 = .ok (.invokevirtual 142, 3) := by decide +kernel
theorem dX11_turn_61 : decode cX11_turn 61 = .ok (.goto 46, 3) := by decide +kernel
theorem dX11_turn_64 : decode cX11_turn 64 = .ok (.aload 4, 2) := by decide +kernel
theorem dX11_turn_66 : decode cX11_turn 66 = .ok (.aload_n 0, 1) := by decide +kernel
theorem dX11_turn_67 : decode cX11_turn 67 = .ok (.getfield 61, 3) := by decide +kernel
theorem dX11_turn_70 : decode cX11_turn 70 = .ok (.invokevirtual 128, 3) := by decide +kernel
theorem dX11_turn_73 : decode cX11_turn 73 = .ok (.aload_n 0, 1) := by decide +kernel
theorem dX11_turn_74 : decode cX11_turn 74 = .ok (.getfield 57, 3) := by decide +kernel
theorem dX11_turn_77 : decode cX11_turn 77 = .ok (.lconst 0, 1) := by decide +kernel
theorem dX11_turn_78 : decode cX11_turn 78 = .ok (.invokestatic 146, 3) := by decide +kernel
theorem dX11_turn_81 : decode cX11_turn 81 = .ok (.aload_n 0, 1) := by decide +kernel
theorem dX11_turn_82 : decode cX11_turn 82 = .ok (.getfield 61, 3) := by decide +kernel
theorem dX11_turn_85 : decode cX11_turn 85 = .ok (.aload 4, 2) := by decide +kernel
theorem dX11_turn_87 : decode cX11_turn 87 = .ok (.getfield 132, 3) := by decide +kernel
theorem dX11_turn_90 : decode cX11_turn 90 = .ok (.aload_n 0, 1) := by decide +kernel
theorem dX11_turn_91 : decode cX11_turn 91 = .ok (.getfield 57, 3) := by decide +kernel
theorem dX11_turn_94 : decode cX11_turn 94 = .ok (.invokestatic 152, 3) := by decide +kernel
theorem dX11_turn_97 : decode cX11_turn 97 = .ok (.ifCond .ne 10, 3) := by decide +kernel
theorem dX11_turn_100 : decode cX11_turn 100 = .ok (.aload_n 0, 1) := by decide +kernel
theorem dX11_turn_101 : decode cX11_turn 101 = .ok (.bipush (-5), 2) := by decide +kernel
theorem dX11_turn_103 : decode cX11_turn 103 = .ok (.invokevirtual 98, 3) := by decide +kernel
theorem dX11_turn_106 : decode cX11_turn 106 = .ok (.ireturn, 1) := by decide +kernel
theorem dX11_turn_107 : decode cX11_turn 107 = .ok (.aload_n 0, 1) := by decide +kernel
theorem dX11_turn_108 : decode cX11_turn 108 = .ok (.iconst 4, 1) := by decide +kernel
theorem dX11_turn_109 : decode cX11_turn 109 = .ok (.iload_n 3, 1) := by decide +kernel
theorem dX11_turn_110 : decode cX11_turn 110 = .ok (.invokevirtual 107, 3) := by decide +kernel
theorem dX11_turn_113 : decode cX11_turn 113 = .ok (.ireturn, 1) := by decide +kernel
theorem dX11_cyclotomic_0 : decode cX11_cyclotomic 0 = .ok (.iload_n 1, 1) := by decide +kernel
theorem dX11_cyclotomic_1 : decode cX11_cyclotomic 1 = .ok (.iconst 1, 1) := by decide +kernel
theorem dX11_cyclotomic_2 : decode cX11_cyclotomic 2 = .ok (.if_icmp .ge 7, 3) := by decide +kernel
theorem dX11_cyclotomic_5 : decode cX11_cyclotomic 5 = .ok (.aconst_null, 1) := by decide +kernel
theorem dX11_cyclotomic_6 : decode cX11_cyclotomic 6 = .ok (.goto 11, 3) := by decide +kernel
theorem dX11_cyclotomic_9 : decode cX11_cyclotomic 9 = .ok (.aload_n 0, 1) := by decide +kernel
theorem dX11_cyclotomic_10 : decode cX11_cyclotomic 10 = .ok (.getfield 33, 3) := by decide +kernel
theorem dX11_cyclotomic_13 : decode cX11_cyclotomic 13 = .ok (.iload_n 1, 1) := by decide +kernel
theorem dX11_cyclotomic_14 : decode cX11_cyclotomic 14 = .ok (.invokevirtual 155, 3) := by decide +kernel
theorem dX11_cyclotomic_17 : decode cX11_cyclotomic 17 = .ok (.astore_n 3, 1) := by decide +kernel
theorem dX11_cyclotomic_18 : decode cX11_cyclotomic 18 = .ok (.aload_n 3, 1) := by decide +kernel
theorem dX11_cyclotomic_19 : decode cX11_cyclotomic 19 = .ok (.ifnonnull 9, 3) := by decide +kernel
theorem dX11_cyclotomic_22 : decode cX11_cyclotomic 22 = .ok (.aload_n 0, 1) := by decide +kernel
theorem dX11_cyclotomic_23 : decode cX11_cyclotomic 23 = .ok (.iconst (-1), 1) := by decide +kernel
theorem dX11_cyclotomic_24 : decode cX11_cyclotomic 24 = .ok (.invokevirtual 98, 3) := by decide +kernel
theorem dX11_cyclotomic_27 : decode cX11_cyclotomic 27 = .ok (.ireturn, 1) := by decide +kernel
theorem dX11_cyclotomic_28 : decode cX11_cyclotomic 28 = .ok (.iload_n 2, 1) := by decide +kernel
theorem dX11_cyclotomic_29 : decode cX11_cyclotomic 29 = .ok (.invokestatic 95, 3) := by decide +kernel
theorem dX11_cyclotomic_32 : decode cX11_cyclotomic 32 = .ok (.ifCond .ne 10, 3) := by decide +kernel
theorem dX11_cyclotomic_35 : decode cX11_cyclotomic 35 = .ok (.aload_n 0, 1) := by decide +kernel
theorem dX11_cyclotomic_36 : decode cX11_cyclotomic 36 = .ok (.bipush (-2), 2) := by decide +kernel
theorem dX11_cyclotomic_38 : decode cX11_cyclotomic 38 = .ok (.invokevirtual 98, 3) := by decide +kernel
theorem dX11_cyclotomic_41 : decode cX11_cyclotomic 41 = .ok (.ireturn, 1) := by decide +kernel
theorem dX11_cyclotomic_42 : decode cX11_cyclotomic 42 = .ok (.aload_n 3, 1) := by decide +kernel
theorem dX11_cyclotomic_43 : decode cX11_cyclotomic 43 = .ok (.aload_n 0, 1) := by decide +kernel
theorem dX11_cyclotomic_44 : decode cX11_cyclotomic 44 = .ok (.getfield 57, 3) := by decide +kernel
theorem dX11_cyclotomic_47 : decode cX11_cyclotomic 47 = .ok (.invokevirtual 128, 3) := by decide +kernel
theorem dX11_cyclotomic_50 : decode cX11_cyclotomic 50 = .ok (.aload_n 0, 1) := by decide +kernel
theorem dX11_cyclotomic_51 : decode cX11_cyclotomic 51 = .ok (.iconst 5, 1) := by decide +kernel
theorem dX11_cyclotomic_52 : decode cX11_cyclotomic 52 = .ok (.iload_n 2, 1) := by decide +kernel
theorem dX11_cyclotomic_53 : decode cX11_cyclotomic 53 = .ok (.invokevirtual 107, 3) := by decide +kernel
theorem dX11_cyclotomic_56 : decode cX11_cyclotomic 56 = .ok (.ireturn, 1) := by decide +kernel
theorem dX11_core_0 : decode cX11_core 0 = .ok (.iload_n 1, 1) := by decide +kernel
theorem dX11_core_1 : decode cX11_core 1 = .ok (.invokestatic 95, 3) := by decide +kernel
theorem dX11_core_4 : decode cX11_core 4 = .ok (.ifCond .eq 10, 3) := by decide +kernel
theorem dX11_core_7 : decode cX11_core 7 = .ok (.iload_n 2, 1) := by decide +kernel
theorem dX11_core_8 : decode cX11_core 8 = .ok (.invokestatic 95, 3) := by decide +kernel
theorem dX11_core_11 : decode cX11_core 11 = .ok (.ifCond .ne 10, 3) := by decide +kernel
theorem dX11_core_14 : decode cX11_core 14 = .ok (.aload_n 0, 1) := by decide +kernel
theorem dX11_core_15 : decode cX11_core 15 = .ok (.bipush (-2), 2) := by decide +kernel
theorem dX11_core_17 : decode cX11_core 17 = .ok (.invokevirtual 98, 3) := by decide +kernel
theorem dX11_core_20 : decode cX11_core 20 = .ok (.ireturn, 1) := by decide +kernel
theorem dX11_core_21 : decode cX11_core 21 = .ok (.aload_n 0, 1) := by decide +kernel
theorem dX11_core_22 : decode cX11_core 22 = .ok (.getfield 33, 3) := by decide +kernel
theorem dX11_core_25 : decode cX11_core 25 = .ok (.aload_n 0, 1) := by decide +kernel
theorem dX11_core_26 : decode cX11_core 26 = .ok (.getfield 69, 3) := by decide +kernel
theorem dX11_core_29 : decode cX11_core 29 = .ok (.iload_n 1, 1) := by decide +kernel
theorem dX11_core_30 : decode cX11_core 30 = .ok (.invokevirtual 111, 3) := by decide +kernel
theorem dX11_core_33 : decode cX11_core 33 = .ok (.invokevirtual 158, 3) := by decide +kernel
theorem dX11_core_36 : decode cX11_core 36 = .ok (.aload_n 0, 1) := by decide +kernel
theorem dX11_core_37 : decode cX11_core 37 = .ok (.getfield 33, 3) := by decide +kernel
theorem dX11_core_40 : decode cX11_core 40 = .ok (.invokevirtual 162, 3) := by decide +kernel
theorem dX11_core_43 : decode cX11_core 43 = .ok (.aload_n 0, 1) := by decide +kernel
theorem dX11_core_44 : decode cX11_core 44 = .ok (.getfield 33, 3) := by decide +kernel
theorem dX11_core_47 : decode cX11_core 47 = .ok (.aload_n 0, 1) := by decide +kernel
theorem dX11_core_48 : decode cX11_core 48 = .ok (.getfield 57, 3) := by decide +kernel
theorem dX11_core_51 : decode cX11_core 51 = .ok (.invokevirtual 165, 3) := by decide +kernel
theorem dX11_core_54 : decode cX11_core 54 = .ok (.aload_n 0, 1) := by decide +kernel
theorem dX11_core_55 : decode cX11_core 55 = .ok (.bipush 6, 2) := by decide +kernel
theorem dX11_core_57 : decode cX11_core 57 = .ok (.iload_n 2, 1) := by decide +kernel
theorem dX11_core_58 : decode cX11_core 58 = .ok (.invokevirtual 107, 3) := by decide +kernel
theorem dX11_core_61 : decode cX11_core 61 = .ok (.ireturn, 1) := by decide +kernel
theorem dX11_search_0 : decode cX11_search 0 = .ok (.iload_n 1, 1) := by decide +kernel
theorem dX11_search_1 : decode cX11_search 1 = .ok (.iconst 2, 1) := by decide +kernel
theorem dX11_search_2 : decode cX11_search 2 = .ok (.if_icmp .lt 29, 3) := by decide +kernel
theorem dX11_search_5 : decode cX11_search 5 = .ok (.iload_n 1, 1) := by decide +kernel
theorem dX11_search_6 : decode cX11_search 6 = .ok (.bipush 10, 2) := by decide +kernel
theorem dX11_search_8 : decode cX11_search 8 = .ok (.if_icmp .gt 23, 3) := by decide +kernel
theorem dX11_search_11 : decode cX11_search 11 = .ok (.iload_n 1, 1) := by decide +kernel
theorem dX11_search_12 : decode cX11_search 12 = .ok (.iconst 2, 1) := by decide +kernel
theorem dX11_search_13 : decode cX11_search 13 = .ok (.irem, 1) := by decide +kernel
theorem dX11_search_14 : decode cX11_search 14 = .ok (.ifCond .ne 17, 3) := by decide +kernel
theorem dX11_search_17 : decode cX11_search 17 = .ok (.iload_n 2, 1) := by decide +kernel
theorem dX11_search_18 : decode cX11_search 18 = .ok (.iconst 1, 1) := by decide +kernel
theorem dX11_search_19 : decode cX11_search 19 = .ok (.if_icmp .lt 12, 3) := by decide +kernel
theorem dX11_search_22 : decode cX11_search 22 = .ok (.iload_n 2, 1) := by decide +kernel
theorem dX11_search_23 : decode cX11_search 23 = .ok (.iconst 3, 1) := by decide +kernel
theorem dX11_search_24 : decode cX11_search 24 = .ok (.if_icmp .gt 7, 3) := by decide +kernel
theorem dX11_search_27 : decode cX11_search 27 = .ok (.iconst 1, 1) := by decide +kernel
theorem dX11_search_28 : decode cX11_search 28 = .ok (.goto 4, 3) := by decide +kernel
theorem dX11_search_31 : decode cX11_search 31 = .ok (.iconst 0, 1) := by decide +kernel
theorem dX11_search_32 : decode cX11_search 32 = .ok (.istore 5, 2) := by decide +kernel
theorem dX11_search_34 : decode cX11_search 34 = .ok (.iload 5, 2) := by decide +kernel
theorem dX11_search_36 : decode cX11_search 36 = .ok (.ifCond .eq 26, 3) := by decide +kernel
theorem dX11_search_39 : decode cX11_search 39 = .ok (.iload_n 3, 1) := by decide +kernel
theorem dX11_search_40 : decode cX11_search 40 = .ok (.invokestatic 168, 3) := by decide +kernel
theorem dX11_search_43 : decode cX11_search 43 = .ok (.ifCond .eq 19, 3) := by decide +kernel
theorem dX11_search_46 : decode cX11_search 46 = .ok (.iload 4, 2) := by decide +kernel
theorem dX11_search_48 : decode cX11_search 48 = .ok (.sipush 1000, 3) := by decide +kernel
theorem dX11_search_51 : decode cX11_search 51 = .ok (.if_icmp .lt 11, 3) := by decide +kernel
theorem dX11_search_54 : decode cX11_search 54 = .ok (.iload 4, 2) := by decide +kernel
theorem dX11_search_56 : decode cX11_search 56 = .ok (.sipush 9999, 3) := by decide +kernel
theorem dX11_search_59 : decode cX11_search 59 = .ok (.if_icmp .le 9, 3) := by decide +kernel
theorem dX11_search_62 : decode cX11_search 62 = .ok (.aload_n 0, 1) := by decide +kernel
theorem dX11_search_63 : decode cX11_search 63 = .ok (.iconst (-1), 1) := by decide +kernel
theorem dX11_search_64 : decode cX11_search 64 = .ok (.invokevirtual 98, 3) := by decide +kernel
theorem dX11_search_67 : decode cX11_search 67 = .ok (.ireturn, 1) := by decide +kernel
theorem dX11_search_68 : decode cX11_search 68 = .ok (.iload_n 1, 1) := by decide +kernel
theorem dX11_search_69 : decode cX11_search 69 = .ok (.iload_n 2, 1) := by decide +kernel
theorem dX11_search_70 : decode cX11_search 70 = .ok (.invokestatic 171, 3) := by decide +kernel
theorem dX11_search_73 : decode cX11_search 73 = .ok (.sipush 3125, 3) := by decide +kernel
theorem dX11_search_76 : decode cX11_search 76 = .ok (.if_icmp .le 10, 3) := by decide +kernel
theorem dX11_search_79 : decode cX11_search 79 = .ok (.aload_n 0, 1) := by decide +kernel
theorem dX11_search_80 : decode cX11_search 80 = .ok (.bipush (-4), 2) := by decide +kernel
theorem dX11_search_82 : decode cX11_search 82 = .ok (.invokevirtual 98, 3) := by decide +kernel
theorem dX11_search_85 : decode cX11_search 85 = .ok (.ireturn, 1) := by decide +kernel
theorem dX11_search_86 : decode cX11_search 86 = .ok (.aload_n 0, 1) := by decide +kernel
theorem dX11_search_87 : decode cX11_search 87 = .ok (.getfield 40, 3) := by decide +kernel
theorem dX11_search_90 : decode cX11_search 90 = .ok (.iload_n 1, 1) := by decide +kernel
theorem dX11_search_91 : decode cX11_search 91 = .ok (.iload_n 2, 1) := by decide +kernel
theorem dX11_search_92 : decode cX11_search 92 = .ok (.invokevirtual 174, 3) := by decide +kernel
theorem dX11_search_95 : decode cX11_search 95 = .ok (.aload_n 0, 1) := by decide +kernel
theorem dX11_search_96 : decode cX11_search 96 = .ok (.getfield 40, 3) := by decide +kernel
theorem dX11_search_99 : decode cX11_search 99 = .ok (.iload_n 3, 1) := by decide +kernel
theorem dX11_search_100 : decode cX11_search 100 = .ok (.iload 4, 2) := by decide +kernel
theorem dX11_search_102 : decode cX11_search 102 = .ok (.aload_n 0, 1) := by decide +kernel
theorem dX11_search_103 : decode cX11_search 103 = .ok (.getfield 26, 3) := by decide +kernel
theorem dX11_search_106 : decode cX11_search 106 = .ok (.invokevirtual 177, 3) := by decide +kernel
theorem dX11_search_109 : decode cX11_search 109 = .ok (.iload_n 1, 1) := by decide +kernel
theorem dX11_search_110 : decode cX11_search 110 = .ok (.iload_n 2, 1) := by decide +kernel
theorem dX11_search_111 : decode cX11_search 111 = .ok (.invokestatic 171, 3) := by decide +kernel
theorem dX11_search_114 : decode cX11_search 114 = .ok (.istore 6, 2) := by decide +kernel
theorem dX11_search_116 : decode cX11_search 116 = .ok (.iconst 0, 1) := by decide +kernel
theorem dX11_search_117 : decode cX11_search 117 = .ok (.istore 7, 2) := by decide +kernel
theorem dX11_search_119 : decode cX11_search 119 = .ok (.iload 7, 2) := by decide +kernel
theorem dX11_search_121 : decode cX11_search 121 = .ok (.iload 6, 2) := by decide +kernel
theorem dX11_search_123 : decode cX11_search 123 = .ok (.if_icmp .ge 49, 3) := by decide +kernel
theorem dX11_search_126 : decode cX11_search 126 = .ok (.aload_n 0, 1) := by decide +kernel
theorem dX11_search_127 : decode cX11_search 127 = .ok (.getfield 40, 3) := by decide +kernel
theorem dX11_search_130 : decode cX11_search 130 = .ok (.aload_n 0, 1) := by decide +kernel
theorem dX11_search_131 : decode cX11_search 131 = .ok (.getfield 19, 3) := by decide +kernel
theorem dX11_search_134 : decode cX11_search 134 = .ok (.aload_n 0, 1) := by decide +kernel
theorem dX11_search_135 : decode cX11_search 135 = .ok (.getfield 33, 3) := by decide +kernel
theorem dX11_search_138 : decode cX11_search 138 = .ok (.invokevirtual 181, 3) := by decide +kernel
theorem dX11_search_141 : decode cX11_search 141 = .ok (.ifCond .eq 18, 3) := by decide +kernel
theorem dX11_search_144 : decode cX11_search 144 = .ok (.aload_n 0, 1) := by decide +kernel
theorem dX11_search_145 : decode cX11_search 145 = .ok (.getfield 40, 3) := by decide +kernel
theorem dX11_search_148 : decode cX11_search 148 = .ok (.aload_n 0, 1) := by decide +kernel
theorem dX11_search_149 : decode cX11_search 149 = .ok (.getfield 19, 3) := by decide +kernel
theorem dX11_search_152 : decode cX11_search 152 = .ok (.aload_n 0, 1) := by decide +kernel
theorem dX11_search_153 : decode cX11_search 153 = .ok (.getfield 26, 3) := by decide +kernel
theorem dX11_search_156 : decode cX11_search 156 = .ok (.invokevirtual 185, 3) := by decide +kernel
theorem dX11_search_159 : decode cX11_search 159 = .ok (.aload_n 0, 1) := by decide +kernel
theorem dX11_search_160 : decode cX11_search 160 = .ok (.getfield 40, 3) := by decide +kernel
theorem dX11_search_163 : decode cX11_search 163 = .ok (.invokevirtual 189, 3) := by decide +kernel
theorem dX11_search_166 : decode cX11_search 166 = .ok (.iinc 7 1, 3) := by decide +kernel
theorem dX11_search_169 : decode cX11_search 169 = .ok (.goto (-50), 3) := by decide +kernel
theorem dX11_search_172 : decode cX11_search 172 = .ok (.aload_n 0, 1) := by decide +kernel
theorem dX11_search_173 : decode cX11_search 173 = .ok (.getfield 40, 3) := by decide +kernel
theorem dX11_search_176 : decode cX11_search 176 = .ok (.invokevirtual 192, 3) := by decide +kernel
theorem dX11_search_179 : decode cX11_search 179 = .ok (.astore 7, 2) := by decide +kernel
theorem dX11_search_181 : decode cX11_search 181 = .ok (.aload_n 0, 1) := by decide +kernel
theorem dX11_search_182 : decode cX11_search 182 = .ok (.bipush 7, 2) := by decide +kernel
theorem dX11_search_184 : decode cX11_search 184 = .ok (.aload_n 0, 1) := by decide +kernel
theorem dX11_search_185 : decode cX11_search 185 = .ok (.getfield 69, 3) := by decide +kernel
theorem dX11_search_188 : decode cX11_search 188 = .ok (.aload 7, 2) := by decide +kernel
theorem dX11_search_190 : decode cX11_search 190 = .ok (.invokevirtual 196, 3) := by decide +kernel
theorem dX11_search_193 : decode cX11_search 193 = .ok (.invokevirtual 200, 3) := by decide +kernel
theorem dX11_search_196 : decode cX11_search 196 = .ok (.aload_n 0, 1) := by decide +kernel
theorem dX11_search_197 : decode cX11_search 197 = .ok (.aload 7, 2) := by decide +kernel
theorem dX11_search_199 : decode cX11_search 199 = .ok (.getfield 204, 3) := by decide +kernel
theorem dX11_search_202 : decode cX11_search 202 = .ok (.invokevirtual 119, 3) := by decide +kernel
theorem dX11_search_205 : decode cX11_search 205 = .ok (.ireturn, 1) := by decide +kernel
theorem dX11_take_0 : decode cX11_take 0 = .ok (.aload_n 0, 1) := by decide +kernel
theorem dX11_take_1 : decode cX11_take 1 = .ok (.getfield 69, 3) := by decide +kernel
theorem dX11_take_4 : decode cX11_take 4 = .ok (.getfield 209, 3) := by decide +kernel
theorem dX11_take_7 : decode cX11_take 7 = .ok (.iload_n 1, 1) := by decide +kernel
theorem dX11_take_8 : decode cX11_take 8 = .ok (.invokevirtual 213, 3) := by decide +kernel
theorem dX11_take_11 : decode cX11_take 11 = .ok (.ifCond .eq 10, 3) := by decide +kernel
theorem dX11_take_14 : decode cX11_take 14 = .ok (.iload_n 2, 1) := by decide +kernel
theorem dX11_take_15 : decode cX11_take 15 = .ok (.invokestatic 95, 3) := by decide +kernel
theorem dX11_take_18 : decode cX11_take 18 = .ok (.ifCond .ne 10, 3) := by decide +kernel
theorem dX11_take_21 : decode cX11_take 21 = .ok (.aload_n 0, 1) := by decide +kernel
theorem dX11_take_22 : decode cX11_take 22 = .ok (.bipush (-2), 2) := by decide +kernel
theorem dX11_take_24 : decode cX11_take 24 = .ok (.invokevirtual 98, 3) := by decide +kernel
theorem dX11_take_27 : decode cX11_take 27 = .ok (.ireturn, 1) := by decide +kernel
theorem dX11_take_28 : decode cX11_take 28 = .ok (.aload_n 0, 1) := by decide +kernel
theorem dX11_take_29 : decode cX11_take 29 = .ok (.getfield 69, 3) := by decide +kernel
theorem dX11_take_32 : decode cX11_take 32 = .ok (.getfield 209, 3) := by decide +kernel
theorem dX11_take_35 : decode cX11_take 35 = .ok (.iload_n 1, 1) := by decide +kernel
theorem dX11_take_36 : decode cX11_take 36 = .ok (.aload_n 0, 1) := by decide +kernel
theorem dX11_take_37 : decode cX11_take 37 = .ok (.getfield 57, 3) := by decide +kernel
theorem dX11_take_40 : decode cX11_take 40 = .ok (.invokevirtual 216, 3) := by decide +kernel
theorem dX11_take_43 : decode cX11_take 43 = .ok (.aload_n 0, 1) := by decide +kernel
theorem dX11_take_44 : decode cX11_take 44 = .ok (.bipush 8, 2) := by decide +kernel
theorem dX11_take_46 : decode cX11_take 46 = .ok (.iload_n 2, 1) := by decide +kernel
theorem dX11_take_47 : decode cX11_take 47 = .ok (.invokevirtual 107, 3) := by decide +kernel
theorem dX11_take_50 : decode cX11_take 50 = .ok (.ireturn, 1) := by decide +kernel
theorem dX11_undo_0 : decode cX11_undo 0 = .ok (.aload_n 0, 1) := by decide +kernel
theorem dX11_undo_1 : decode cX11_undo 1 = .ok (.getfield 47, 3) := by decide +kernel
theorem dX11_undo_4 : decode cX11_undo 4 = .ok (.getfield 218, 3) := by decide +kernel
theorem dX11_undo_7 : decode cX11_undo 7 = .ok (.ifCond .ne 10, 3) := by decide +kernel
theorem dX11_undo_10 : decode cX11_undo 10 = .ok (.aload_n 0, 1) := by decide +kernel
theorem dX11_undo_11 : decode cX11_undo 11 = .ok (.bipush (-4), 2) := by decide +kernel
theorem dX11_undo_13 : decode cX11_undo 13 = .ok (.invokevirtual 98, 3) := by decide +kernel
theorem dX11_undo_16 : decode cX11_undo 16 = .ok (.ireturn, 1) := by decide +kernel
theorem dX11_undo_17 : decode cX11_undo 17 = .ok (.aload_n 0, 1) := by decide +kernel
theorem dX11_undo_18 : decode cX11_undo 18 = .ok (.getfield 47, 3) := by decide +kernel
theorem dX11_undo_21 : decode cX11_undo 21 = .ok (.invokevirtual 221, 3) := by decide +kernel
theorem dX11_undo_24 : decode cX11_undo 24 = .ok (.istore_n 1, 1) := by decide +kernel
theorem dX11_undo_25 : decode cX11_undo 25 = .ok (.aload_n 0, 1) := by decide +kernel
theorem dX11_undo_26 : decode cX11_undo 26 = .ok (.aload_n 0, 1) := by decide +kernel
theorem dX11_undo_27 : decode cX11_undo 27 = .ok (.getfield 47, 3) := by decide +kernel
theorem dX11_undo_30 : decode cX11_undo 30 = .ok (.aload_n 0, 1) := by decide +kernel
theorem dX11_undo_31 : decode cX11_undo 31 = .ok (.getfield 69, 3) := by decide +kernel
theorem dX11_undo_34 : decode cX11_undo 34 = .ok (.invokevirtual 225, 3) := by decide +kernel
theorem dX11_undo_37 : decode cX11_undo 37 = .ok (.putfield 69, 3) := by decide +kernel
theorem dX11_undo_40 : decode cX11_undo 40 = .ok (.aload_n 0, 1) := by decide +kernel
theorem dX11_undo_41 : decode cX11_undo 41 = .ok (.iload_n 1, 1) := by decide +kernel
theorem dX11_undo_42 : decode cX11_undo 42 = .ok (.invokevirtual 119, 3) := by decide +kernel
theorem dX11_undo_45 : decode cX11_undo 45 = .ok (.ireturn, 1) := by decide +kernel
theorem dX11_image_0 : decode cX11_image 0 = .ok (.iload_n 1, 1) := by decide +kernel
theorem dX11_image_1 : decode cX11_image 1 = .ok (.ifCond .lt 8, 3) := by decide +kernel
theorem dX11_image_4 : decode cX11_image 4 = .ok (.iload_n 1, 1) := by decide +kernel
theorem dX11_image_5 : decode cX11_image 5 = .ok (.iconst 2, 1) := by decide +kernel
theorem dX11_image_6 : decode cX11_image 6 = .ok (.if_icmp .lt 9, 3) := by decide +kernel
theorem dX11_image_9 : decode cX11_image 9 = .ok (.aload_n 0, 1) := by decide +kernel
theorem dX11_image_10 : decode cX11_image 10 = .ok (.iconst (-1), 1) := by decide +kernel
theorem dX11_image_11 : decode cX11_image 11 = .ok (.invokevirtual 98, 3) := by decide +kernel
theorem dX11_image_14 : decode cX11_image 14 = .ok (.ireturn, 1) := by decide +kernel
theorem dX11_image_15 : decode cX11_image 15 = .ok (.aload_n 0, 1) := by decide +kernel
theorem dX11_image_16 : decode cX11_image 16 = .ok (.getfield 53, 3) := by decide +kernel
theorem dX11_image_19 : decode cX11_image 19 = .ok (.iload_n 1, 1) := by decide +kernel
theorem dX11_image_20 : decode cX11_image 20 = .ok (.aload_n 0, 1) := by decide +kernel
theorem dX11_image_21 : decode cX11_image 21 = .ok (.getfield 69, 3) := by decide +kernel
theorem dX11_image_24 : decode cX11_image 24 = .ok (.aastore, 1) := by decide +kernel
theorem dX11_image_25 : decode cX11_image 25 = .ok (.aload_n 0, 1) := by decide +kernel
theorem dX11_image_26 : decode cX11_image 26 = .ok (.aload_n 0, 1) := by decide +kernel
theorem dX11_image_27 : decode cX11_image 27 = .ok (.getfield 69, 3) := by decide +kernel
theorem dX11_image_30 : decode cX11_image 30 = .ok (.invokevirtual 229, 3) := by decide +kernel
theorem dX11_image_33 : decode cX11_image 33 = .ok (.invokevirtual 119, 3) := by decide +kernel
theorem dX11_image_36 : decode cX11_image 36 = .ok (.ireturn, 1) := by decide +kernel
theorem dX11_back_0 : decode cX11_back 0 = .ok (.iload_n 1, 1) := by decide +kernel
theorem dX11_back_1 : decode cX11_back 1 = .ok (.ifCond .lt 8, 3) := by decide +kernel
theorem dX11_back_4 : decode cX11_back 4 = .ok (.iload_n 1, 1) := by decide +kernel
theorem dX11_back_5 : decode cX11_back 5 = .ok (.iconst 2, 1) := by decide +kernel
theorem dX11_back_6 : decode cX11_back 6 = .ok (.if_icmp .lt 9, 3) := by decide +kernel
theorem dX11_back_9 : decode cX11_back 9 = .ok (.aload_n 0, 1) := by decide +kernel
theorem dX11_back_10 : decode cX11_back 10 = .ok (.iconst (-1), 1) := by decide +kernel
theorem dX11_back_11 : decode cX11_back 11 = .ok (.invokevirtual 98, 3) := by decide +kernel
theorem dX11_back_14 : decode cX11_back 14 = .ok (.ireturn, 1) := by decide +kernel
theorem dX11_back_15 : decode cX11_back 15 = .ok (.aload_n 0, 1) := by decide +kernel
theorem dX11_back_16 : decode cX11_back 16 = .ok (.getfield 53, 3) := by decide +kernel
theorem dX11_back_19 : decode cX11_back 19 = .ok (.iload_n 1, 1) := by decide +kernel
theorem dX11_back_20 : decode cX11_back 20 = .ok (.aaload, 1) := by decide +kernel
theorem dX11_back_21 : decode cX11_back 21 = .ok (.astore_n 2, 1) := by decide +kernel
theorem dX11_back_22 : decode cX11_back 22 = .ok (.aload_n 2, 1) := by decide +kernel
theorem dX11_back_23 : decode cX11_back 23 = .ok (.ifnonnull 10, 3) := by decide +kernel
theorem dX11_back_26 : decode cX11_back 26 = .ok (.aload_n 0, 1) := by decide +kernel
theorem dX11_back_27 : decode cX11_back 27 = .ok (.bipush (-2), 2) := by decide +kernel
theorem dX11_back_29 : decode cX11_back 29 = .ok (.invokevirtual 98, 3) := by decide +kernel
theorem dX11_back_32 : decode cX11_back 32 = .ok (.ireturn, 1) := by decide +kernel
theorem dX11_back_33 : decode cX11_back 33 = .ok (.aload_n 0, 1) := by decide +kernel
theorem dX11_back_34 : decode cX11_back 34 = .ok (.aload_n 2, 1) := by decide +kernel
theorem dX11_back_35 : decode cX11_back 35 = .ok (.putfield 69, 3) := by decide +kernel
theorem dX11_back_38 : decode cX11_back 38 = .ok (.aload_n 0, 1) := by decide +kernel
theorem dX11_back_39 : decode cX11_back 39 = .ok (.getfield 47, 3) := by decide +kernel
theorem dX11_back_42 : decode cX11_back 42 = .ok (.invokevirtual 232, 3) := by decide +kernel
theorem dX11_back_45 : decode cX11_back 45 = .ok (.aload_n 0, 1) := by decide +kernel
theorem dX11_back_46 : decode cX11_back 46 = .ok (.aload_n 0, 1) := by decide +kernel
theorem dX11_back_47 : decode cX11_back 47 = .ok (.getfield 69, 3) := by decide +kernel
theorem dX11_back_50 : decode cX11_back 50 = .ok (.invokevirtual 229, 3) := by decide +kernel
theorem dX11_back_53 : decode cX11_back 53 = .ok (.invokevirtual 119, 3) := by decide +kernel
theorem dX11_back_56 : decode cX11_back 56 = .ok (.ireturn, 1) := by decide +kernel
theorem dX11_coefficient_0 : decode cX11_coefficient 0 = .ok (.iload_n 1, 1) := by decide +kernel
theorem dX11_coefficient_1 : decode cX11_coefficient 1 = .ok (.invokestatic 95, 3) := by decide +kernel
theorem dX11_coefficient_4 : decode cX11_coefficient 4 = .ok (.ifCond .eq 10, 3) := by decide +kernel
theorem dX11_coefficient_7 : decode cX11_coefficient 7 = .ok (.iload_n 2, 1) := by decide +kernel
theorem dX11_coefficient_8 : decode cX11_coefficient 8 = .ok (.invokestatic 235, 3) := by decide +kernel
theorem dX11_coefficient_11 : decode cX11_coefficient 11 = .ok (.ifCond .ne 6, 3) := by decide +kernel
theorem dX11_coefficient_14 : decode cX11_coefficient 14 = .ok (.ldc 240, 2) := by decide +kernel
theorem dX11_coefficient_16 : decode cX11_coefficient 16 = .ok (.ireturn, 1) := by decide +kernel
theorem dX11_coefficient_17 : decode cX11_coefficient 17 = .ok (.aload_n 0, 1) := by decide +kernel
theorem dX11_coefficient_18 : decode cX11_coefficient 18 = .ok (.getfield 69, 3) := by decide +kernel
theorem dX11_coefficient_21 : decode cX11_coefficient 21 = .ok (.iload_n 1, 1) := by decide +kernel
theorem dX11_coefficient_22 : decode cX11_coefficient 22 = .ok (.invokevirtual 111, 3) := by decide +kernel
theorem dX11_coefficient_25 : decode cX11_coefficient 25 = .ok (.iload_n 2, 1) := by decide +kernel
theorem dX11_coefficient_26 : decode cX11_coefficient 26 = .ok (.invokevirtual 241, 3) := by decide +kernel
theorem dX11_coefficient_29 : decode cX11_coefficient 29 = .ok (.ireturn, 1) := by decide +kernel
theorem dX11_of_0 : decode cX11_of 0 = .ok (.iload_n 1, 1) := by decide +kernel
theorem dX11_of_1 : decode cX11_of 1 = .ok (.invokestatic 95, 3) := by decide +kernel
theorem dX11_of_4 : decode cX11_of 4 = .ok (.ifCond .ne 5, 3) := by decide +kernel
theorem dX11_of_7 : decode cX11_of 7 = .ok (.iconst (-1), 1) := by decide +kernel
theorem dX11_of_8 : decode cX11_of 8 = .ok (.ireturn, 1) := by decide +kernel
theorem dX11_of_9 : decode cX11_of 9 = .ok (.aload_n 0, 1) := by decide +kernel
theorem dX11_of_10 : decode cX11_of 10 = .ok (.getfield 69, 3) := by decide +kernel
theorem dX11_of_13 : decode cX11_of 13 = .ok (.iload_n 1, 1) := by decide +kernel
theorem dX11_of_14 : decode cX11_of 14 = .ok (.invokevirtual 111, 3) := by decide +kernel
theorem dX11_of_17 : decode cX11_of 17 = .ok (.astore_n 3, 1) := by decide +kernel
theorem dX11_of_18 : decode cX11_of 18 = .ok (.iload_n 2, 1) := by decide +kernel
theorem dX11_of_19 : decode cX11_of 19 = .ok (.tableswitch 126 0 9 #[53, 58, 63, 68, 73, 86, 100, 105, 110, 115], 53) := by decide +kernel
theorem dX11_of_72 : decode cX11_of 72 = .ok (.aload_n 3, 1) := by decide +kernel
theorem dX11_of_73 : decode cX11_of 73 = .ok (.getfield 132, 3) := by decide +kernel
theorem dX11_of_76 : decode cX11_of 76 = .ok (.ireturn, 1) := by decide +kernel
theorem dX11_of_77 : decode cX11_of 77 = .ok (.aload_n 3, 1) := by decide +kernel
theorem dX11_of_78 : decode cX11_of 78 = .ok (.invokevirtual 244, 3) := by decide +kernel
theorem dX11_of_81 : decode cX11_of 81 = .ok (.ireturn, 1) := by decide +kernel
theorem dX11_of_82 : decode cX11_of 82 = .ok (.aload_n 3, 1) := by decide +kernel
theorem dX11_of_83 : decode cX11_of 83 = .ok (.invokevirtual 247, 3) := by decide +kernel
theorem dX11_of_86 : decode cX11_of 86 = .ok (.ireturn, 1) := by decide +kernel
theorem dX11_of_87 : decode cX11_of 87 = .ok (.aload_n 3, 1) := by decide +kernel
theorem dX11_of_88 : decode cX11_of 88 = .ok (.invokevirtual 250, 3) := by decide +kernel
theorem dX11_of_91 : decode cX11_of 91 = .ok (.ireturn, 1) := by decide +kernel
theorem dX11_of_92 : decode cX11_of 92 = .ok (.aload_n 3, 1) := by decide +kernel
theorem dX11_of_93 : decode cX11_of 93 = .ok (.invokevirtual 253, 3) := by decide +kernel
theorem dX11_of_96 : decode cX11_of 96 = .ok (.ifCond .eq 7, 3) := by decide +kernel
theorem dX11_of_99 : decode cX11_of 99 = .ok (.iconst 1, 1) := by decide +kernel
theorem dX11_of_100 : decode cX11_of 100 = .ok (.goto 4, 3) := by decide +kernel
theorem dX11_of_103 : decode cX11_of 103 = .ok (.iconst 0, 1) := by decide +kernel
theorem dX11_of_104 : decode cX11_of 104 = .ok (.ireturn, 1) := by decide +kernel
theorem dX11_of_105 : decode cX11_of 105 = .ok (.aload_n 0, 1) := by decide +kernel
theorem dX11_of_106 : decode cX11_of 106 = .ok (.aload_n 3, 1) := by decide +kernel
theorem dX11_of_107 : decode cX11_of 107 = .ok (.invokevirtual 257, 3) := by decide +kernel
theorem dX11_of_110 : decode cX11_of 110 = .ok (.ifCond .eq 7, 3) := by decide +kernel
theorem dX11_of_113 : decode cX11_of 113 = .ok (.iconst 1, 1) := by decide +kernel
theorem dX11_of_114 : decode cX11_of 114 = .ok (.goto 4, 3) := by decide +kernel
theorem dX11_of_117 : decode cX11_of 117 = .ok (.iconst 0, 1) := by decide +kernel
theorem dX11_of_118 : decode cX11_of 118 = .ok (.ireturn, 1) := by decide +kernel
theorem dX11_of_119 : decode cX11_of 119 = .ok (.aload_n 3, 1) := by decide +kernel
theorem dX11_of_120 : decode cX11_of 120 = .ok (.invokevirtual 261, 3) := by decide +kernel
theorem dX11_of_123 : decode cX11_of 123 = .ok (.ireturn, 1) := by decide +kernel
theorem dX11_of_124 : decode cX11_of 124 = .ok (.aload_n 3, 1) := by decide +kernel
theorem dX11_of_125 : decode cX11_of 125 = .ok (.invokevirtual 264, 3) := by decide +kernel
theorem dX11_of_128 : decode cX11_of 128 = .ok (.ireturn, 1) := by decide +kernel
theorem dX11_of_129 : decode cX11_of 129 = .ok (.aload_n 3, 1) := by decide +kernel
theorem dX11_of_130 : decode cX11_of 130 = .ok (.invokevirtual 267, 3) := by decide +kernel
theorem dX11_of_133 : decode cX11_of 133 = .ok (.ireturn, 1) := by decide +kernel
theorem dX11_of_134 : decode cX11_of 134 = .ok (.aload_n 0, 1) := by decide +kernel
theorem dX11_of_135 : decode cX11_of 135 = .ok (.getfield 19, 3) := by decide +kernel
theorem dX11_of_138 : decode cX11_of 138 = .ok (.aload_n 3, 1) := by decide +kernel
theorem dX11_of_139 : decode cX11_of 139 = .ok (.bipush 6, 2) := by decide +kernel
theorem dX11_of_141 : decode cX11_of 141 = .ok (.invokevirtual 270, 3) := by decide +kernel
theorem dX11_of_144 : decode cX11_of 144 = .ok (.ireturn, 1) := by decide +kernel
theorem dX11_of_145 : decode cX11_of 145 = .ok (.iconst (-1), 1) := by decide +kernel
theorem dX11_of_146 : decode cX11_of 146 = .ok (.ireturn, 1) := by decide +kernel
theorem dX11_level_0 : decode cX11_level 0 = .ok (.iload_n 3, 1) := by decide +kernel
theorem dX11_level_1 : decode cX11_level 1 = .ok (.invokestatic 235, 3) := by decide +kernel
theorem dX11_level_4 : decode cX11_level 4 = .ok (.ifCond .eq 12, 3) := by decide +kernel
theorem dX11_level_7 : decode cX11_level 7 = .ok (.aload_n 0, 1) := by decide +kernel
theorem dX11_level_8 : decode cX11_level 8 = .ok (.iload_n 1, 1) := by decide +kernel
theorem dX11_level_9 : decode cX11_level 9 = .ok (.iload_n 2, 1) := by decide +kernel
theorem dX11_level_10 : decode cX11_level 10 = .ok (.invokevirtual 274, 3) := by decide +kernel
theorem dX11_level_13 : decode cX11_level 13 = .ok (.ifCond .ne 7, 3) := by decide +kernel
theorem dX11_level_16 : decode cX11_level 16 = .ok (.ldc2_w 280, 3) := by decide +kernel
theorem dX11_level_19 : decode cX11_level 19 = .ok (.lreturn, 1) := by decide +kernel
theorem dX11_level_20 : decode cX11_level 20 = .ok (.iload_n 3, 1) := by decide +kernel
theorem dX11_level_21 : decode cX11_level 21 = .ok (.aload_n 0, 1) := by decide +kernel
theorem dX11_level_22 : decode cX11_level 22 = .ok (.getfield 19, 3) := by decide +kernel
theorem dX11_level_25 : decode cX11_level 25 = .ok (.getfield 282, 3) := by decide +kernel
theorem dX11_level_28 : decode cX11_level 28 = .ok (.if_icmp .gt 17, 3) := by decide +kernel
theorem dX11_level_31 : decode cX11_level 31 = .ok (.aload_n 0, 1) := by decide +kernel
theorem dX11_level_32 : decode cX11_level 32 = .ok (.getfield 19, 3) := by decide +kernel
theorem dX11_level_35 : decode cX11_level 35 = .ok (.getfield 283, 3) := by decide +kernel
theorem dX11_level_38 : decode cX11_level 38 = .ok (.iload_n 2, 1) := by decide +kernel
theorem dX11_level_39 : decode cX11_level 39 = .ok (.aaload, 1) := by decide +kernel
theorem dX11_level_40 : decode cX11_level 40 = .ok (.iload_n 3, 1) := by decide +kernel
theorem dX11_level_41 : decode cX11_level 41 = .ok (.laload, 1) := by decide +kernel
theorem dX11_level_42 : decode cX11_level 42 = .ok (.goto 4, 3) := by decide +kernel
theorem dX11_level_45 : decode cX11_level 45 = .ok (.lconst 0, 1) := by decide +kernel
theorem dX11_level_46 : decode cX11_level 46 = .ok (.lreturn, 1) := by decide +kernel
theorem dX11_low_0 : decode cX11_low 0 = .ok (.aload_n 0, 1) := by decide +kernel
theorem dX11_low_1 : decode cX11_low 1 = .ok (.iload_n 1, 1) := by decide +kernel
theorem dX11_low_2 : decode cX11_low 2 = .ok (.iload_n 2, 1) := by decide +kernel
theorem dX11_low_3 : decode cX11_low 3 = .ok (.invokevirtual 274, 3) := by decide +kernel
theorem dX11_low_6 : decode cX11_low 6 = .ok (.ifCond .eq 18, 3) := by decide +kernel
theorem dX11_low_9 : decode cX11_low 9 = .ok (.aload_n 0, 1) := by decide +kernel
theorem dX11_low_10 : decode cX11_low 10 = .ok (.getfield 26, 3) := by decide +kernel
theorem dX11_low_13 : decode cX11_low 13 = .ok (.aload_n 0, 1) := by decide +kernel
theorem dX11_low_14 : decode cX11_low 14 = .ok (.getfield 19, 3) := by decide +kernel
theorem dX11_low_17 : decode cX11_low 17 = .ok (.iload_n 2, 1) := by decide +kernel
theorem dX11_low_18 : decode cX11_low 18 = .ok (.invokevirtual 287, 3) := by decide +kernel
theorem dX11_low_21 : decode cX11_low 21 = .ok (.goto 4, 3) := by decide +kernel
theorem dX11_low_24 : decode cX11_low 24 = .ok (.iconst (-1), 1) := by decide +kernel
theorem dX11_low_25 : decode cX11_low 25 = .ok (.ireturn, 1) := by decide +kernel
theorem dX11_high_0 : decode cX11_high 0 = .ok (.aload_n 0, 1) := by decide +kernel
theorem dX11_high_1 : decode cX11_high 1 = .ok (.iload_n 1, 1) := by decide +kernel
theorem dX11_high_2 : decode cX11_high 2 = .ok (.iload_n 2, 1) := by decide +kernel
theorem dX11_high_3 : decode cX11_high 3 = .ok (.invokevirtual 274, 3) := by decide +kernel
theorem dX11_high_6 : decode cX11_high 6 = .ok (.ifCond .eq 18, 3) := by decide +kernel
theorem dX11_high_9 : decode cX11_high 9 = .ok (.aload_n 0, 1) := by decide +kernel
theorem dX11_high_10 : decode cX11_high 10 = .ok (.getfield 26, 3) := by decide +kernel
theorem dX11_high_13 : decode cX11_high 13 = .ok (.aload_n 0, 1) := by decide +kernel
theorem dX11_high_14 : decode cX11_high 14 = .ok (.getfield 19, 3) := by decide +kernel
theorem dX11_high_17 : decode cX11_high 17 = .ok (.iload_n 2, 1) := by decide +kernel
theorem dX11_high_18 : decode cX11_high 18 = .ok (.invokevirtual 291, 3) := by decide +kernel
theorem dX11_high_21 : decode cX11_high 21 = .ok (.goto 4, 3) := by decide +kernel
theorem dX11_high_24 : decode cX11_high 24 = .ok (.iconst (-1), 1) := by decide +kernel
theorem dX11_high_25 : decode cX11_high 25 = .ok (.ireturn, 1) := by decide +kernel
theorem dX11_enclosed_0 : decode cX11_enclosed 0 = .ok (.iload_n 1, 1) := by decide +kernel
theorem dX11_enclosed_1 : decode cX11_enclosed 1 = .ok (.invokestatic 95, 3) := by decide +kernel
theorem dX11_enclosed_4 : decode cX11_enclosed 4 = .ok (.ifCond .eq 12, 3) := by decide +kernel
theorem dX11_enclosed_7 : decode cX11_enclosed 7 = .ok (.iload_n 2, 1) := by decide +kernel
theorem dX11_enclosed_8 : decode cX11_enclosed 8 = .ok (.ifCond .lt 8, 3) := by decide +kernel
theorem dX11_enclosed_11 : decode cX11_enclosed 11 = .ok (.iload_n 2, 1) := by decide +kernel
theorem dX11_enclosed_12 : decode cX11_enclosed 12 = .ok (.iconst 3, 1) := by decide +kernel
theorem dX11_enclosed_13 : decode cX11_enclosed 13 = .ok (.if_icmp .le 5, 3) := by decide +kernel
theorem dX11_enclosed_16 : decode cX11_enclosed 16 = .ok (.iconst (-1), 1) := by decide +kernel
theorem dX11_enclosed_17 : decode cX11_enclosed 17 = .ok (.ireturn, 1) := by decide +kernel
theorem dX11_enclosed_18 : decode cX11_enclosed 18 = .ok (.aload_n 0, 1) := by decide +kernel
theorem dX11_enclosed_19 : decode cX11_enclosed 19 = .ok (.getfield 19, 3) := by decide +kernel
theorem dX11_enclosed_22 : decode cX11_enclosed 22 = .ok (.aload_n 0, 1) := by decide +kernel
theorem dX11_enclosed_23 : decode cX11_enclosed 23 = .ok (.getfield 69, 3) := by decide +kernel
theorem dX11_enclosed_26 : decode cX11_enclosed 26 = .ok (.iload_n 1, 1) := by decide +kernel
theorem dX11_enclosed_27 : decode cX11_enclosed 27 = .ok (.invokevirtual 111, 3) := by decide +kernel
theorem dX11_enclosed_30 : decode cX11_enclosed 30 = .ok (.bipush 6, 2) := by decide +kernel
theorem dX11_enclosed_32 : decode cX11_enclosed 32 = .ok (.invokevirtual 270, 3) := by decide +kernel
theorem dX11_enclosed_35 : decode cX11_enclosed 35 = .ok (.pop, 1) := by decide +kernel
theorem dX11_enclosed_36 : decode cX11_enclosed 36 = .ok (.iload_n 2, 1) := by decide +kernel
theorem dX11_enclosed_37 : decode cX11_enclosed 37 = .ok (.iconst 2, 1) := by decide +kernel
theorem dX11_enclosed_38 : decode cX11_enclosed 38 = .ok (.irem, 1) := by decide +kernel
theorem dX11_enclosed_39 : decode cX11_enclosed 39 = .ok (.ifCond .ne 17, 3) := by decide +kernel
theorem dX11_enclosed_42 : decode cX11_enclosed 42 = .ok (.aload_n 0, 1) := by decide +kernel
theorem dX11_enclosed_43 : decode cX11_enclosed 43 = .ok (.getfield 26, 3) := by decide +kernel
theorem dX11_enclosed_46 : decode cX11_enclosed 46 = .ok (.aload_n 0, 1) := by decide +kernel
theorem dX11_enclosed_47 : decode cX11_enclosed 47 = .ok (.getfield 19, 3) := by decide +kernel
theorem dX11_enclosed_50 : decode cX11_enclosed 50 = .ok (.invokevirtual 294, 3) := by decide +kernel
theorem dX11_enclosed_53 : decode cX11_enclosed 53 = .ok (.goto 14, 3) := by decide +kernel
theorem dX11_enclosed_56 : decode cX11_enclosed 56 = .ok (.aload_n 0, 1) := by decide +kernel
theorem dX11_enclosed_57 : decode cX11_enclosed 57 = .ok (.getfield 26, 3) := by decide +kernel
theorem dX11_enclosed_60 : decode cX11_enclosed 60 = .ok (.aload_n 0, 1) := by decide +kernel
theorem dX11_enclosed_61 : decode cX11_enclosed 61 = .ok (.getfield 19, 3) := by decide +kernel
theorem dX11_enclosed_64 : decode cX11_enclosed 64 = .ok (.invokevirtual 298, 3) := by decide +kernel
theorem dX11_enclosed_67 : decode cX11_enclosed 67 = .ok (.iload_n 2, 1) := by decide +kernel
theorem dX11_enclosed_68 : decode cX11_enclosed 68 = .ok (.iconst 2, 1) := by decide +kernel
theorem dX11_enclosed_69 : decode cX11_enclosed 69 = .ok (.if_icmp .ge 13, 3) := by decide +kernel
theorem dX11_enclosed_72 : decode cX11_enclosed 72 = .ok (.aload_n 0, 1) := by decide +kernel
theorem dX11_enclosed_73 : decode cX11_enclosed 73 = .ok (.getfield 26, 3) := by decide +kernel
theorem dX11_enclosed_76 : decode cX11_enclosed 76 = .ok (.getfield 301, 3) := by decide +kernel
theorem dX11_enclosed_79 : decode cX11_enclosed 79 = .ok (.goto 10, 3) := by decide +kernel
theorem dX11_enclosed_82 : decode cX11_enclosed 82 = .ok (.aload_n 0, 1) := by decide +kernel
theorem dX11_enclosed_83 : decode cX11_enclosed 83 = .ok (.getfield 26, 3) := by decide +kernel
theorem dX11_enclosed_86 : decode cX11_enclosed 86 = .ok (.getfield 304, 3) := by decide +kernel
theorem dX11_enclosed_89 : decode cX11_enclosed 89 = .ok (.ireturn, 1) := by decide +kernel
theorem dX11_often_0 : decode cX11_often 0 = .ok (.iload_n 1, 1) := by decide +kernel
theorem dX11_often_1 : decode cX11_often 1 = .ok (.invokestatic 95, 3) := by decide +kernel
theorem dX11_often_4 : decode cX11_often 4 = .ok (.ifCond .eq 14, 3) := by decide +kernel
theorem dX11_often_7 : decode cX11_often 7 = .ok (.aload_n 0, 1) := by decide +kernel
theorem dX11_often_8 : decode cX11_often 8 = .ok (.getfield 33, 3) := by decide +kernel
theorem dX11_often_11 : decode cX11_often 11 = .ok (.iload_n 2, 1) := by decide +kernel
theorem dX11_often_12 : decode cX11_often 12 = .ok (.invokevirtual 155, 3) := by decide +kernel
theorem dX11_often_15 : decode cX11_often 15 = .ok (.ifnonnull 5, 3) := by decide +kernel
theorem dX11_often_18 : decode cX11_often 18 = .ok (.iconst (-1), 1) := by decide +kernel
theorem dX11_often_19 : decode cX11_often 19 = .ok (.ireturn, 1) := by decide +kernel
theorem dX11_often_20 : decode cX11_often 20 = .ok (.aload_n 0, 1) := by decide +kernel
theorem dX11_often_21 : decode cX11_often 21 = .ok (.getfield 33, 3) := by decide +kernel
theorem dX11_often_24 : decode cX11_often 24 = .ok (.aload_n 0, 1) := by decide +kernel
theorem dX11_often_25 : decode cX11_often 25 = .ok (.getfield 69, 3) := by decide +kernel
theorem dX11_often_28 : decode cX11_often 28 = .ok (.iload_n 1, 1) := by decide +kernel
theorem dX11_often_29 : decode cX11_often 29 = .ok (.invokevirtual 111, 3) := by decide +kernel
theorem dX11_often_32 : decode cX11_often 32 = .ok (.invokevirtual 158, 3) := by decide +kernel
theorem dX11_often_35 : decode cX11_often 35 = .ok (.aload_n 0, 1) := by decide +kernel
theorem dX11_often_36 : decode cX11_often 36 = .ok (.getfield 33, 3) := by decide +kernel
theorem dX11_often_39 : decode cX11_often 39 = .ok (.iload_n 2, 1) := by decide +kernel
theorem dX11_often_40 : decode cX11_often 40 = .ok (.invokevirtual 307, 3) := by decide +kernel
theorem dX11_often_43 : decode cX11_often 43 = .ok (.ireturn, 1) := by decide +kernel
theorem dX11_value_0 : decode cX11_value 0 = .ok (.iload_n 1, 1) := by decide +kernel
theorem dX11_value_1 : decode cX11_value 1 = .ok (.invokestatic 95, 3) := by decide +kernel
theorem dX11_value_4 : decode cX11_value 4 = .ok (.ifCond .eq 15, 3) := by decide +kernel
theorem dX11_value_7 : decode cX11_value 7 = .ok (.iload_n 2, 1) := by decide +kernel
theorem dX11_value_8 : decode cX11_value 8 = .ok (.bipush (-50), 2) := by decide +kernel
theorem dX11_value_10 : decode cX11_value 10 = .ok (.if_icmp .lt 9, 3) := by decide +kernel
theorem dX11_value_13 : decode cX11_value 13 = .ok (.iload_n 2, 1) := by decide +kernel
theorem dX11_value_14 : decode cX11_value 14 = .ok (.bipush 50, 2) := by decide +kernel
theorem dX11_value_16 : decode cX11_value 16 = .ok (.if_icmp .le 7, 3) := by decide +kernel
theorem dX11_value_19 : decode cX11_value 19 = .ok (.ldc2_w 280, 3) := by decide +kernel
theorem dX11_value_22 : decode cX11_value 22 = .ok (.lreturn, 1) := by decide +kernel
theorem dX11_value_23 : decode cX11_value 23 = .ok (.aload_n 0, 1) := by decide +kernel
theorem dX11_value_24 : decode cX11_value 24 = .ok (.getfield 69, 3) := by decide +kernel
theorem dX11_value_27 : decode cX11_value 27 = .ok (.iload_n 1, 1) := by decide +kernel
theorem dX11_value_28 : decode cX11_value 28 = .ok (.invokevirtual 111, 3) := by decide +kernel
theorem dX11_value_31 : decode cX11_value 31 = .ok (.iload_n 2, 1) := by decide +kernel
theorem dX11_value_32 : decode cX11_value 32 = .ok (.invokevirtual 310, 3) := by decide +kernel
theorem dX11_value_35 : decode cX11_value 35 = .ok (.lreturn, 1) := by decide +kernel
theorem dX11_roots_0 : decode cX11_roots 0 = .ok (.iload_n 1, 1) := by decide +kernel
theorem dX11_roots_1 : decode cX11_roots 1 = .ok (.invokestatic 95, 3) := by decide +kernel
theorem dX11_roots_4 : decode cX11_roots 4 = .ok (.ifCond .eq 12, 3) := by decide +kernel
theorem dX11_roots_7 : decode cX11_roots 7 = .ok (.iload_n 2, 1) := by decide +kernel
theorem dX11_roots_8 : decode cX11_roots 8 = .ok (.ifCond .lt 8, 3) := by decide +kernel
theorem dX11_roots_11 : decode cX11_roots 11 = .ok (.iload_n 2, 1) := by decide +kernel
theorem dX11_roots_12 : decode cX11_roots 12 = .ok (.iconst 2, 1) := by decide +kernel
theorem dX11_roots_13 : decode cX11_roots 13 = .ok (.if_icmp .le 6, 3) := by decide +kernel
theorem dX11_roots_16 : decode cX11_roots 16 = .ok (.ldc 240, 2) := by decide +kernel
theorem dX11_roots_18 : decode cX11_roots 18 = .ok (.ireturn, 1) := by decide +kernel
theorem dX11_roots_19 : decode cX11_roots 19 = .ok (.aload_n 0, 1) := by decide +kernel
theorem dX11_roots_20 : decode cX11_roots 20 = .ok (.getfield 69, 3) := by decide +kernel
theorem dX11_roots_23 : decode cX11_roots 23 = .ok (.iload_n 1, 1) := by decide +kernel
theorem dX11_roots_24 : decode cX11_roots 24 = .ok (.invokevirtual 111, 3) := by decide +kernel
theorem dX11_roots_27 : decode cX11_roots 27 = .ok (.astore_n 3, 1) := by decide +kernel
theorem dX11_roots_28 : decode cX11_roots 28 = .ok (.iconst 0, 1) := by decide +kernel
theorem dX11_roots_29 : decode cX11_roots 29 = .ok (.istore 4, 2) := by decide +kernel
theorem dX11_roots_31 : decode cX11_roots 31 = .ok (.ldc 240, 2) := by decide +kernel
theorem dX11_roots_33 : decode cX11_roots 33 = .ok (.istore 5, 2) := by decide +kernel
theorem dX11_roots_35 : decode cX11_roots 35 = .ok (.ldc 240, 2) := by decide +kernel
theorem dX11_roots_37 : decode cX11_roots 37 = .ok (.istore 6, 2) := by decide +kernel
theorem dX11_roots_39 : decode cX11_roots 39 = .ok (.bipush (-50), 2) := by decide +kernel
theorem dX11_roots_41 : decode cX11_roots 41 = .ok (.istore 7, 2) := by decide +kernel
theorem dX11_roots_43 : decode cX11_roots 43 = .ok (.iload 7, 2) := by decide +kernel
theorem dX11_roots_45 : decode cX11_roots 45 = .ok (.bipush 50, 2) := by decide +kernel
theorem dX11_roots_47 : decode cX11_roots 47 = .ok (.if_icmp .gt 39, 3) := by decide +kernel
theorem dX11_roots_50 : decode cX11_roots 50 = .ok (.aload_n 3, 1) := by decide +kernel
theorem dX11_roots_51 : decode cX11_roots 51 = .ok (.iload 7, 2) := by decide +kernel
theorem dX11_roots_53 : decode cX11_roots 53 = .ok (.invokevirtual 314, 3) := by decide +kernel
theorem dX11_roots_56 : decode cX11_roots 56 = .ok (.ifCond .eq 24, 3) := by decide +kernel
theorem dX11_roots_59 : decode cX11_roots 59 = .ok (.iload 4, 2) := by decide +kernel
theorem dX11_roots_61 : decode cX11_roots 61 = .ok (.ifCond .ne 8, 3) := by decide +kernel
theorem dX11_roots_64 : decode cX11_roots 64 = .ok (.iload 7, 2) := by decide +kernel
theorem dX11_roots_66 : decode cX11_roots 66 = .ok (.goto 5, 3) := by decide +kernel
theorem dX11_roots_69 : decode cX11_roots 69 = .ok (.iload 5, 2) := by decide +kernel
theorem dX11_roots_71 : decode cX11_roots 71 = .ok (.istore 5, 2) := by decide +kernel
theorem dX11_roots_73 : decode cX11_roots 73 = .ok (.iload 7, 2) := by decide +kernel
theorem dX11_roots_75 : decode cX11_roots 75 = .ok (.istore 6, 2) := by decide +kernel
theorem dX11_roots_77 : decode cX11_roots 77 = .ok (.iinc 4 1, 3) := by decide +kernel
theorem dX11_roots_80 : decode cX11_roots 80 = .ok (.iinc 7 1, 3) := by decide +kernel
theorem dX11_roots_83 : decode cX11_roots 83 = .ok (.goto (-40), 3) := by decide +kernel
theorem dX11_roots_86 : decode cX11_roots 86 = .ok (.iload_n 2, 1) := by decide +kernel
theorem dX11_roots_87 : decode cX11_roots 87 = .ok (.ifCond .ne 6, 3) := by decide +kernel
theorem dX11_roots_90 : decode cX11_roots 90 = .ok (.iload 4, 2) := by decide +kernel
theorem dX11_roots_92 : decode cX11_roots 92 = .ok (.ireturn, 1) := by decide +kernel
theorem dX11_roots_93 : decode cX11_roots 93 = .ok (.iload_n 2, 1) := by decide +kernel
theorem dX11_roots_94 : decode cX11_roots 94 = .ok (.iconst 1, 1) := by decide +kernel
theorem dX11_roots_95 : decode cX11_roots 95 = .ok (.if_icmp .ne 8, 3) := by decide +kernel
theorem dX11_roots_98 : decode cX11_roots 98 = .ok (.iload 5, 2) := by decide +kernel
theorem dX11_roots_100 : decode cX11_roots 100 = .ok (.goto 5, 3) := by decide +kernel
theorem dX11_roots_103 : decode cX11_roots 103 = .ok (.iload 6, 2) := by decide +kernel
theorem dX11_roots_105 : decode cX11_roots 105 = .ok (.ireturn, 1) := by decide +kernel
theorem dX11_compare_0 : decode cX11_compare 0 = .ok (.iload_n 1, 1) := by decide +kernel
theorem dX11_compare_1 : decode cX11_compare 1 = .ok (.invokestatic 95, 3) := by decide +kernel
theorem dX11_compare_4 : decode cX11_compare 4 = .ok (.ifCond .eq 17, 3) := by decide +kernel
theorem dX11_compare_7 : decode cX11_compare 7 = .ok (.iload_n 2, 1) := by decide +kernel
theorem dX11_compare_8 : decode cX11_compare 8 = .ok (.invokestatic 95, 3) := by decide +kernel
theorem dX11_compare_11 : decode cX11_compare 11 = .ok (.ifCond .eq 10, 3) := by decide +kernel
theorem dX11_compare_14 : decode cX11_compare 14 = .ok (.iload_n 3, 1) := by decide +kernel
theorem dX11_compare_15 : decode cX11_compare 15 = .ok (.invokestatic 168, 3) := by decide +kernel
theorem dX11_compare_18 : decode cX11_compare 18 = .ok (.ifCond .ne 6, 3) := by decide +kernel
theorem dX11_compare_21 : decode cX11_compare 21 = .ok (.bipush (-2), 2) := by decide +kernel
theorem dX11_compare_23 : decode cX11_compare 23 = .ok (.ireturn, 1) := by decide +kernel
theorem dX11_compare_24 : decode cX11_compare 24 = .ok (.aload_n 0, 1) := by decide +kernel
theorem dX11_compare_25 : decode cX11_compare 25 = .ok (.getfield 19, 3) := by decide +kernel
theorem dX11_compare_28 : decode cX11_compare 28 = .ok (.aload_n 0, 1) := by decide +kernel
theorem dX11_compare_29 : decode cX11_compare 29 = .ok (.getfield 69, 3) := by decide +kernel
theorem dX11_compare_32 : decode cX11_compare 32 = .ok (.iload_n 1, 1) := by decide +kernel
theorem dX11_compare_33 : decode cX11_compare 33 = .ok (.invokevirtual 111, 3) := by decide +kernel
theorem dX11_compare_36 : decode cX11_compare 36 = .ok (.iload_n 3, 1) := by decide +kernel
theorem dX11_compare_37 : decode cX11_compare 37 = .ok (.invokevirtual 270, 3) := by decide +kernel
theorem dX11_compare_40 : decode cX11_compare 40 = .ok (.istore 4, 2) := by decide +kernel
theorem dX11_compare_42 : decode cX11_compare 42 = .ok (.aload_n 0, 1) := by decide +kernel
theorem dX11_compare_43 : decode cX11_compare 43 = .ok (.getfield 26, 3) := by decide +kernel
theorem dX11_compare_46 : decode cX11_compare 46 = .ok (.aload_n 0, 1) := by decide +kernel
theorem dX11_compare_47 : decode cX11_compare 47 = .ok (.getfield 19, 3) := by decide +kernel
theorem dX11_compare_50 : decode cX11_compare 50 = .ok (.iload 4, 2) := by decide +kernel
theorem dX11_compare_52 : decode cX11_compare 52 = .ok (.invokevirtual 287, 3) := by decide +kernel
theorem dX11_compare_55 : decode cX11_compare 55 = .ok (.istore 5, 2) := by decide +kernel
theorem dX11_compare_57 : decode cX11_compare 57 = .ok (.aload_n 0, 1) := by decide +kernel
theorem dX11_compare_58 : decode cX11_compare 58 = .ok (.getfield 26, 3) := by decide +kernel
theorem dX11_compare_61 : decode cX11_compare 61 = .ok (.aload_n 0, 1) := by decide +kernel
theorem dX11_compare_62 : decode cX11_compare 62 = .ok (.getfield 19, 3) := by decide +kernel
theorem dX11_compare_65 : decode cX11_compare 65 = .ok (.iload 4, 2) := by decide +kernel
theorem dX11_compare_67 : decode cX11_compare 67 = .ok (.invokevirtual 291, 3) := by decide +kernel
theorem dX11_compare_70 : decode cX11_compare 70 = .ok (.istore 6, 2) := by decide +kernel
theorem dX11_compare_72 : decode cX11_compare 72 = .ok (.aload_n 0, 1) := by decide +kernel
theorem dX11_compare_73 : decode cX11_compare 73 = .ok (.getfield 19, 3) := by decide +kernel
theorem dX11_compare_76 : decode cX11_compare 76 = .ok (.aload_n 0, 1) := by decide +kernel
theorem dX11_compare_77 : decode cX11_compare 77 = .ok (.getfield 69, 3) := by decide +kernel
theorem dX11_compare_80 : decode cX11_compare 80 = .ok (.iload_n 2, 1) := by decide +kernel
theorem dX11_compare_81 : decode cX11_compare 81 = .ok (.invokevirtual 111, 3) := by decide +kernel
theorem dX11_compare_84 : decode cX11_compare 84 = .ok (.iload_n 3, 1) := by decide +kernel
theorem dX11_compare_85 : decode cX11_compare 85 = .ok (.invokevirtual 270, 3) := by decide +kernel
theorem dX11_compare_88 : decode cX11_compare 88 = .ok (.istore 7, 2) := by decide +kernel
theorem dX11_compare_90 : decode cX11_compare 90 = .ok (.aload_n 0, 1) := by decide +kernel
theorem dX11_compare_91 : decode cX11_compare 91 = .ok (.getfield 26, 3) := by decide +kernel
theorem dX11_compare_94 : decode cX11_compare 94 = .ok (.aload_n 0, 1) := by decide +kernel
theorem dX11_compare_95 : decode cX11_compare 95 = .ok (.getfield 19, 3) := by decide +kernel
theorem dX11_compare_98 : decode cX11_compare 98 = .ok (.iload 7, 2) := by decide +kernel
theorem dX11_compare_100 : decode cX11_compare 100 = .ok (.invokevirtual 287, 3) := by decide +kernel
theorem dX11_compare_103 : decode cX11_compare 103 = .ok (.istore 8, 2) := by decide +kernel
theorem dX11_compare_105 : decode cX11_compare 105 = .ok (.aload_n 0, 1) := by decide +kernel
theorem dX11_compare_106 : decode cX11_compare 106 = .ok (.getfield 26, 3) := by decide +kernel
theorem dX11_compare_109 : decode cX11_compare 109 = .ok (.aload_n 0, 1) := by decide +kernel
theorem dX11_compare_110 : decode cX11_compare 110 = .ok (.getfield 19, 3) := by decide +kernel
theorem dX11_compare_113 : decode cX11_compare 113 = .ok (.iload 7, 2) := by decide +kernel
theorem dX11_compare_115 : decode cX11_compare 115 = .ok (.invokevirtual 291, 3) := by decide +kernel
theorem dX11_compare_118 : decode cX11_compare 118 = .ok (.istore 9, 2) := by decide +kernel
theorem dX11_compare_120 : decode cX11_compare 120 = .ok (.iload 5, 2) := by decide +kernel
theorem dX11_compare_122 : decode cX11_compare 122 = .ok (.iload 9, 2) := by decide +kernel
theorem dX11_compare_124 : decode cX11_compare 124 = .ok (.if_icmp .le 5, 3) := by decide +kernel
theorem dX11_compare_127 : decode cX11_compare 127 = .ok (.iconst 1, 1) := by decide +kernel
theorem dX11_compare_128 : decode cX11_compare 128 = .ok (.ireturn, 1) := by decide +kernel
theorem dX11_compare_129 : decode cX11_compare 129 = .ok (.iload 8, 2) := by decide +kernel
theorem dX11_compare_131 : decode cX11_compare 131 = .ok (.iload 6, 2) := by decide +kernel
theorem dX11_compare_133 : decode cX11_compare 133 = .ok (.if_icmp .le 7, 3) := by decide +kernel
theorem dX11_compare_136 : decode cX11_compare 136 = .ok (.iconst (-1), 1) := by decide +kernel
theorem dX11_compare_137 : decode cX11_compare 137 = .ok (.goto 4, 3) := by decide +kernel
theorem dX11_compare_140 : decode cX11_compare 140 = .ok (.iconst 0, 1) := by decide +kernel
theorem dX11_compare_141 : decode cX11_compare 141 = .ok (.ireturn, 1) := by decide +kernel
theorem dX11_surely_0 : decode cX11_surely 0 = .ok (.iload_n 1, 1) := by decide +kernel
theorem dX11_surely_1 : decode cX11_surely 1 = .ok (.invokestatic 95, 3) := by decide +kernel
theorem dX11_surely_4 : decode cX11_surely 4 = .ok (.ifCond .eq 21, 3) := by decide +kernel
theorem dX11_surely_7 : decode cX11_surely 7 = .ok (.iload_n 2, 1) := by decide +kernel
theorem dX11_surely_8 : decode cX11_surely 8 = .ok (.invokestatic 168, 3) := by decide +kernel
theorem dX11_surely_11 : decode cX11_surely 11 = .ok (.ifCond .eq 14, 3) := by decide +kernel
theorem dX11_surely_14 : decode cX11_surely 14 = .ok (.iload_n 3, 1) := by decide +kernel
theorem dX11_surely_15 : decode cX11_surely 15 = .ok (.ifCond .lt 10, 3) := by decide +kernel
theorem dX11_surely_18 : decode cX11_surely 18 = .ok (.iload_n 3, 1) := by decide +kernel
theorem dX11_surely_19 : decode cX11_surely 19 = .ok (.ldc_w 317, 3) := by decide +kernel
theorem dX11_surely_22 : decode cX11_surely 22 = .ok (.if_icmp .le 6, 3) := by decide +kernel
theorem dX11_surely_25 : decode cX11_surely 25 = .ok (.bipush (-2), 2) := by decide +kernel
theorem dX11_surely_27 : decode cX11_surely 27 = .ok (.ireturn, 1) := by decide +kernel
theorem dX11_surely_28 : decode cX11_surely 28 = .ok (.aload_n 0, 1) := by decide +kernel
theorem dX11_surely_29 : decode cX11_surely 29 = .ok (.getfield 19, 3) := by decide +kernel
theorem dX11_surely_32 : decode cX11_surely 32 = .ok (.aload_n 0, 1) := by decide +kernel
theorem dX11_surely_33 : decode cX11_surely 33 = .ok (.getfield 69, 3) := by decide +kernel
theorem dX11_surely_36 : decode cX11_surely 36 = .ok (.iload_n 1, 1) := by decide +kernel
theorem dX11_surely_37 : decode cX11_surely 37 = .ok (.invokevirtual 111, 3) := by decide +kernel
theorem dX11_surely_40 : decode cX11_surely 40 = .ok (.iload_n 2, 1) := by decide +kernel
theorem dX11_surely_41 : decode cX11_surely 41 = .ok (.invokevirtual 270, 3) := by decide +kernel
theorem dX11_surely_44 : decode cX11_surely 44 = .ok (.istore 4, 2) := by decide +kernel
theorem dX11_surely_46 : decode cX11_surely 46 = .ok (.aload_n 0, 1) := by decide +kernel
theorem dX11_surely_47 : decode cX11_surely 47 = .ok (.getfield 26, 3) := by decide +kernel
theorem dX11_surely_50 : decode cX11_surely 50 = .ok (.aload_n 0, 1) := by decide +kernel
theorem dX11_surely_51 : decode cX11_surely 51 = .ok (.getfield 19, 3) := by decide +kernel
theorem dX11_surely_54 : decode cX11_surely 54 = .ok (.iload 4, 2) := by decide +kernel
theorem dX11_surely_56 : decode cX11_surely 56 = .ok (.invokevirtual 291, 3) := by decide +kernel
theorem dX11_surely_59 : decode cX11_surely 59 = .ok (.iload_n 3, 1) := by decide +kernel
theorem dX11_surely_60 : decode cX11_surely 60 = .ok (.if_icmp .gt 5, 3) := by decide +kernel
theorem dX11_surely_63 : decode cX11_surely 63 = .ok (.iconst 1, 1) := by decide +kernel
theorem dX11_surely_64 : decode cX11_surely 64 = .ok (.ireturn, 1) := by decide +kernel
theorem dX11_surely_65 : decode cX11_surely 65 = .ok (.aload_n 0, 1) := by decide +kernel
theorem dX11_surely_66 : decode cX11_surely 66 = .ok (.getfield 26, 3) := by decide +kernel
theorem dX11_surely_69 : decode cX11_surely 69 = .ok (.aload_n 0, 1) := by decide +kernel
theorem dX11_surely_70 : decode cX11_surely 70 = .ok (.getfield 19, 3) := by decide +kernel
theorem dX11_surely_73 : decode cX11_surely 73 = .ok (.iload 4, 2) := by decide +kernel
theorem dX11_surely_75 : decode cX11_surely 75 = .ok (.invokevirtual 287, 3) := by decide +kernel
theorem dX11_surely_78 : decode cX11_surely 78 = .ok (.iload_n 3, 1) := by decide +kernel
theorem dX11_surely_79 : decode cX11_surely 79 = .ok (.if_icmp .le 7, 3) := by decide +kernel
theorem dX11_surely_82 : decode cX11_surely 82 = .ok (.iconst 0, 1) := by decide +kernel
theorem dX11_surely_83 : decode cX11_surely 83 = .ok (.goto 4, 3) := by decide +kernel
theorem dX11_surely_86 : decode cX11_surely 86 = .ok (.iconst (-1), 1) := by decide +kernel
theorem dX11_surely_87 : decode cX11_surely 87 = .ok (.ireturn, 1) := by decide +kernel
theorem dX11_least_0 : decode cX11_least 0 = .ok (.iload_n 1, 1) := by decide +kernel
theorem dX11_least_1 : decode cX11_least 1 = .ok (.ifCond .le 10, 3) := by decide +kernel
theorem dX11_least_4 : decode cX11_least 4 = .ok (.iload_n 1, 1) := by decide +kernel
theorem dX11_least_5 : decode cX11_least 5 = .ok (.sipush 256, 3) := by decide +kernel
theorem dX11_least_8 : decode cX11_least 8 = .ok (.if_icmp .lt 5, 3) := by decide +kernel
theorem dX11_least_11 : decode cX11_least 11 = .ok (.iconst (-1), 1) := by decide +kernel
theorem dX11_least_12 : decode cX11_least 12 = .ok (.ireturn, 1) := by decide +kernel
theorem dX11_least_13 : decode cX11_least 13 = .ok (.ldc_w 318, 3) := by decide +kernel
theorem dX11_least_16 : decode cX11_least 16 = .ok (.istore_n 2, 1) := by decide +kernel
theorem dX11_least_17 : decode cX11_least 17 = .ok (.iconst (-1), 1) := by decide +kernel
theorem dX11_least_18 : decode cX11_least 18 = .ok (.istore_n 3, 1) := by decide +kernel
theorem dX11_least_19 : decode cX11_least 19 = .ok (.iconst 0, 1) := by decide +kernel
theorem dX11_least_20 : decode cX11_least 20 = .ok (.istore 4, 2) := by decide +kernel
theorem dX11_least_22 : decode cX11_least 22 = .ok (.iload 4, 2) := by decide +kernel
theorem dX11_least_24 : decode cX11_least 24 = .ok (.bipush 8, 2) := by decide +kernel
theorem dX11_least_26 : decode cX11_least 26 = .ok (.if_icmp .ge 79, 3) := by decide +kernel
theorem dX11_least_29 : decode cX11_least 29 = .ok (.iload_n 1, 1) := by decide +kernel
theorem dX11_least_30 : decode cX11_least 30 = .ok (.iload 4, 2) := by decide +kernel
theorem dX11_least_32 : decode cX11_least 32 = .ok (.ishr, 1) := by decide +kernel
theorem dX11_least_33 : decode cX11_least 33 = .ok (.iconst 1, 1) := by decide +kernel
theorem dX11_least_34 : decode cX11_least 34 = .ok (.iand, 1) := by decide +kernel
theorem dX11_least_35 : decode cX11_least 35 = .ok (.iconst 1, 1) := by decide +kernel
theorem dX11_least_36 : decode cX11_least 36 = .ok (.if_icmp .ne 63, 3) := by decide +kernel
theorem dX11_least_39 : decode cX11_least 39 = .ok (.aload_n 0, 1) := by decide +kernel
theorem dX11_least_40 : decode cX11_least 40 = .ok (.getfield 19, 3) := by decide +kernel
theorem dX11_least_43 : decode cX11_least 43 = .ok (.aload_n 0, 1) := by decide +kernel
theorem dX11_least_44 : decode cX11_least 44 = .ok (.getfield 69, 3) := by decide +kernel
theorem dX11_least_47 : decode cX11_least 47 = .ok (.iload 4, 2) := by decide +kernel
theorem dX11_least_49 : decode cX11_least 49 = .ok (.invokevirtual 111, 3) := by decide +kernel
theorem dX11_least_52 : decode cX11_least 52 = .ok (.bipush 6, 2) := by decide +kernel
theorem dX11_least_54 : decode cX11_least 54 = .ok (.invokevirtual 270, 3) := by decide +kernel
theorem dX11_least_57 : decode cX11_least 57 = .ok (.pop, 1) := by decide +kernel
theorem dX11_least_58 : decode cX11_least 58 = .ok (.aload_n 0, 1) := by decide +kernel
theorem dX11_least_59 : decode cX11_least 59 = .ok (.getfield 26, 3) := by decide +kernel
theorem dX11_least_62 : decode cX11_least 62 = .ok (.aload_n 0, 1) := by decide +kernel
theorem dX11_least_63 : decode cX11_least 63 = .ok (.getfield 19, 3) := by decide +kernel
theorem dX11_least_66 : decode cX11_least 66 = .ok (.invokevirtual 298, 3) := by decide +kernel
theorem dX11_least_69 : decode cX11_least 69 = .ok (.aload_n 0, 1) := by decide +kernel
theorem dX11_least_70 : decode cX11_least 70 = .ok (.getfield 26, 3) := by decide +kernel
theorem dX11_least_73 : decode cX11_least 73 = .ok (.getfield 301, 3) := by decide +kernel
theorem dX11_least_76 : decode cX11_least 76 = .ok (.iload_n 2, 1) := by decide +kernel
theorem dX11_least_77 : decode cX11_least 77 = .ok (.if_icmp .ge 8, 3) := by decide +kernel
theorem dX11_least_80 : decode cX11_least 80 = .ok (.iload 4, 2) := by decide +kernel
theorem dX11_least_82 : decode cX11_least 82 = .ok (.goto 4, 3) := by decide +kernel
theorem dX11_least_85 : decode cX11_least 85 = .ok (.iload_n 3, 1) := by decide +kernel
theorem dX11_least_86 : decode cX11_least 86 = .ok (.istore_n 3, 1) := by decide +kernel
theorem dX11_least_87 : decode cX11_least 87 = .ok (.aload_n 0, 1) := by decide +kernel
theorem dX11_least_88 : decode cX11_least 88 = .ok (.getfield 26, 3) := by decide +kernel
theorem dX11_least_91 : decode cX11_least 91 = .ok (.getfield 301, 3) := by decide +kernel
theorem dX11_least_94 : decode cX11_least 94 = .ok (.iload_n 2, 1) := by decide +kernel
theorem dX11_least_95 : decode cX11_least 95 = .ok (.invokestatic 319, 3) := by decide +kernel
theorem dX11_least_98 : decode cX11_least 98 = .ok (.istore_n 2, 1) := by decide +kernel
theorem dX11_least_99 : decode cX11_least 99 = .ok (.iinc 4 1, 3) := by decide +kernel
theorem dX11_least_102 : decode cX11_least 102 = .ok (.goto (-80), 3) := by decide +kernel
theorem dX11_least_105 : decode cX11_least 105 = .ok (.iconst 0, 1) := by decide +kernel
theorem dX11_least_106 : decode cX11_least 106 = .ok (.istore 4, 2) := by decide +kernel
theorem dX11_least_108 : decode cX11_least 108 = .ok (.iload 4, 2) := by decide +kernel
theorem dX11_least_110 : decode cX11_least 110 = .ok (.bipush 8, 2) := by decide +kernel
theorem dX11_least_112 : decode cX11_least 112 = .ok (.if_icmp .ge 68, 3) := by decide +kernel
theorem dX11_least_115 : decode cX11_least 115 = .ok (.iload_n 1, 1) := by decide +kernel
theorem dX11_least_116 : decode cX11_least 116 = .ok (.iload 4, 2) := by decide +kernel
theorem dX11_least_118 : decode cX11_least 118 = .ok (.ishr, 1) := by decide +kernel
theorem dX11_least_119 : decode cX11_least 119 = .ok (.iconst 1, 1) := by decide +kernel
theorem dX11_least_120 : decode cX11_least 120 = .ok (.iand, 1) := by decide +kernel
theorem dX11_least_121 : decode cX11_least 121 = .ok (.iconst 1, 1) := by decide +kernel
theorem dX11_least_122 : decode cX11_least 122 = .ok (.if_icmp .ne 52, 3) := by decide +kernel
theorem dX11_least_125 : decode cX11_least 125 = .ok (.iload 4, 2) := by decide +kernel
theorem dX11_least_127 : decode cX11_least 127 = .ok (.iload_n 3, 1) := by decide +kernel
theorem dX11_least_128 : decode cX11_least 128 = .ok (.if_icmp .eq 46, 3) := by decide +kernel
theorem dX11_least_131 : decode cX11_least 131 = .ok (.aload_n 0, 1) := by decide +kernel
theorem dX11_least_132 : decode cX11_least 132 = .ok (.getfield 19, 3) := by decide +kernel
theorem dX11_least_135 : decode cX11_least 135 = .ok (.aload_n 0, 1) := by decide +kernel
theorem dX11_least_136 : decode cX11_least 136 = .ok (.getfield 69, 3) := by decide +kernel
theorem dX11_least_139 : decode cX11_least 139 = .ok (.iload 4, 2) := by decide +kernel
theorem dX11_least_141 : decode cX11_least 141 = .ok (.invokevirtual 111, 3) := by decide +kernel
theorem dX11_least_144 : decode cX11_least 144 = .ok (.bipush 6, 2) := by decide +kernel
theorem dX11_least_146 : decode cX11_least 146 = .ok (.invokevirtual 270, 3) := by decide +kernel
theorem dX11_least_149 : decode cX11_least 149 = .ok (.pop, 1) := by decide +kernel
theorem dX11_least_150 : decode cX11_least 150 = .ok (.aload_n 0, 1) := by decide +kernel
theorem dX11_least_151 : decode cX11_least 151 = .ok (.getfield 26, 3) := by decide +kernel
theorem dX11_least_154 : decode cX11_least 154 = .ok (.aload_n 0, 1) := by decide +kernel
theorem dX11_least_155 : decode cX11_least 155 = .ok (.getfield 19, 3) := by decide +kernel
theorem dX11_least_158 : decode cX11_least 158 = .ok (.invokevirtual 294, 3) := by decide +kernel
theorem dX11_least_161 : decode cX11_least 161 = .ok (.aload_n 0, 1) := by decide +kernel
theorem dX11_least_162 : decode cX11_least 162 = .ok (.getfield 26, 3) := by decide +kernel
theorem dX11_least_165 : decode cX11_least 165 = .ok (.getfield 301, 3) := by decide +kernel
theorem dX11_least_168 : decode cX11_least 168 = .ok (.iload_n 2, 1) := by decide +kernel
theorem dX11_least_169 : decode cX11_least 169 = .ok (.if_icmp .gt 5, 3) := by decide +kernel
theorem dX11_least_172 : decode cX11_least 172 = .ok (.iconst (-1), 1) := by decide +kernel
theorem dX11_least_173 : decode cX11_least 173 = .ok (.ireturn, 1) := by decide +kernel
theorem dX11_least_174 : decode cX11_least 174 = .ok (.iinc 4 1, 3) := by decide +kernel
theorem dX11_least_177 : decode cX11_least 177 = .ok (.goto (-69), 3) := by decide +kernel
theorem dX11_least_180 : decode cX11_least 180 = .ok (.iload_n 3, 1) := by decide +kernel
theorem dX11_least_181 : decode cX11_least 181 = .ok (.ireturn, 1) := by decide +kernel
theorem dX11_found_0 : decode cX11_found 0 = .ok (.aload_n 0, 1) := by decide +kernel
theorem dX11_found_1 : decode cX11_found 1 = .ok (.getfield 69, 3) := by decide +kernel
theorem dX11_found_4 : decode cX11_found 4 = .ok (.getfield 209, 3) := by decide +kernel
theorem dX11_found_7 : decode cX11_found 7 = .ok (.astore_n 3, 1) := by decide +kernel
theorem dX11_found_8 : decode cX11_found 8 = .ok (.aload_n 3, 1) := by decide +kernel
theorem dX11_found_9 : decode cX11_found 9 = .ok (.iload_n 1, 1) := by decide +kernel
theorem dX11_found_10 : decode cX11_found 10 = .ok (.invokevirtual 213, 3) := by decide +kernel
theorem dX11_found_13 : decode cX11_found 13 = .ok (.ifCond .eq 27, 3) := by decide +kernel
theorem dX11_found_16 : decode cX11_found 16 = .ok (.iload_n 2, 1) := by decide +kernel
theorem dX11_found_17 : decode cX11_found 17 = .ok (.ifCond .lt 23, 3) := by decide +kernel
theorem dX11_found_20 : decode cX11_found 20 = .ok (.iload_n 2, 1) := by decide +kernel
theorem dX11_found_21 : decode cX11_found 21 = .ok (.bipush 15, 2) := by decide +kernel
theorem dX11_found_23 : decode cX11_found 23 = .ok (.if_icmp .gt 17, 3) := by decide +kernel
theorem dX11_found_26 : decode cX11_found 26 = .ok (.iload_n 2, 1) := by decide +kernel
theorem dX11_found_27 : decode cX11_found 27 = .ok (.aload_n 3, 1) := by decide +kernel
theorem dX11_found_28 : decode cX11_found 28 = .ok (.getfield 324, 3) := by decide +kernel
theorem dX11_found_31 : decode cX11_found 31 = .ok (.if_icmp .le 12, 3) := by decide +kernel
theorem dX11_found_34 : decode cX11_found 34 = .ok (.iload_n 2, 1) := by decide +kernel
theorem dX11_found_35 : decode cX11_found 35 = .ok (.bipush 13, 2) := by decide +kernel
theorem dX11_found_37 : decode cX11_found 37 = .ok (.if_icmp .ge 6, 3) := by decide +kernel
theorem dX11_found_40 : decode cX11_found 40 = .ok (.ldc 240, 2) := by decide +kernel
theorem dX11_found_42 : decode cX11_found 42 = .ok (.ireturn, 1) := by decide +kernel
theorem dX11_found_43 : decode cX11_found 43 = .ok (.aload_n 3, 1) := by decide +kernel
theorem dX11_found_44 : decode cX11_found 44 = .ok (.iload_n 1, 1) := by decide +kernel
theorem dX11_found_45 : decode cX11_found 45 = .ok (.iload_n 2, 1) := by decide +kernel
theorem dX11_found_46 : decode cX11_found 46 = .ok (.invokevirtual 325, 3) := by decide +kernel
theorem dX11_found_49 : decode cX11_found 49 = .ok (.ireturn, 1) := by decide +kernel
theorem dX11_smallest_0 : decode cX11_smallest 0 = .ok (.aload_n 0, 1) := by decide +kernel
theorem dX11_smallest_1 : decode cX11_smallest 1 = .ok (.getfield 69, 3) := by decide +kernel
theorem dX11_smallest_4 : decode cX11_smallest 4 = .ok (.getfield 209, 3) := by decide +kernel
theorem dX11_smallest_7 : decode cX11_smallest 7 = .ok (.astore_n 2, 1) := by decide +kernel
theorem dX11_smallest_8 : decode cX11_smallest 8 = .ok (.aload_n 2, 1) := by decide +kernel
theorem dX11_smallest_9 : decode cX11_smallest 9 = .ok (.getfield 328, 3) := by decide +kernel
theorem dX11_smallest_12 : decode cX11_smallest 12 = .ok (.ifCond .eq 12, 3) := by decide +kernel
theorem dX11_smallest_15 : decode cX11_smallest 15 = .ok (.iload_n 1, 1) := by decide +kernel
theorem dX11_smallest_16 : decode cX11_smallest 16 = .ok (.ifCond .lt 8, 3) := by decide +kernel
theorem dX11_smallest_19 : decode cX11_smallest 19 = .ok (.iload_n 1, 1) := by decide +kernel
theorem dX11_smallest_20 : decode cX11_smallest 20 = .ok (.iconst 2, 1) := by decide +kernel
theorem dX11_smallest_21 : decode cX11_smallest 21 = .ok (.if_icmp .le 5, 3) := by decide +kernel
theorem dX11_smallest_24 : decode cX11_smallest 24 = .ok (.iconst (-1), 1) := by decide +kernel
theorem dX11_smallest_25 : decode cX11_smallest 25 = .ok (.ireturn, 1) := by decide +kernel
theorem dX11_smallest_26 : decode cX11_smallest 26 = .ok (.aload_n 2, 1) := by decide +kernel
theorem dX11_smallest_27 : decode cX11_smallest 27 = .ok (.invokevirtual 331, 3) := by decide +kernel
theorem dX11_smallest_30 : decode cX11_smallest 30 = .ok (.istore_n 3, 1) := by decide +kernel
theorem dX11_smallest_31 : decode cX11_smallest 31 = .ok (.iload_n 1, 1) := by decide +kernel
theorem dX11_smallest_32 : decode cX11_smallest 32 = .ok (.ifCond .ne 15, 3) := by decide +kernel
theorem dX11_smallest_35 : decode cX11_smallest 35 = .ok (.aload_n 2, 1) := by decide +kernel
theorem dX11_smallest_36 : decode cX11_smallest 36 = .ok (.aload_n 2, 1) := by decide +kernel
theorem dX11_smallest_37 : decode cX11_smallest 37 = .ok (.iload_n 3, 1) := by decide +kernel
theorem dX11_smallest_38 : decode cX11_smallest 38 = .ok (.bipush 13, 2) := by decide +kernel
theorem dX11_smallest_40 : decode cX11_smallest 40 = .ok (.invokevirtual 325, 3) := by decide +kernel
theorem dX11_smallest_43 : decode cX11_smallest 43 = .ok (.invokevirtual 334, 3) := by decide +kernel
theorem dX11_smallest_46 : decode cX11_smallest 46 = .ok (.ireturn, 1) := by decide +kernel
theorem dX11_smallest_47 : decode cX11_smallest 47 = .ok (.iload_n 1, 1) := by decide +kernel
theorem dX11_smallest_48 : decode cX11_smallest 48 = .ok (.iconst 1, 1) := by decide +kernel
theorem dX11_smallest_49 : decode cX11_smallest 49 = .ok (.if_icmp .ne 7, 3) := by decide +kernel
theorem dX11_smallest_52 : decode cX11_smallest 52 = .ok (.iload_n 3, 1) := by decide +kernel
theorem dX11_smallest_53 : decode cX11_smallest 53 = .ok (.goto 10, 3) := by decide +kernel
theorem dX11_smallest_56 : decode cX11_smallest 56 = .ok (.aload_n 2, 1) := by decide +kernel
theorem dX11_smallest_57 : decode cX11_smallest 57 = .ok (.iload_n 3, 1) := by decide +kernel
theorem dX11_smallest_58 : decode cX11_smallest 58 = .ok (.bipush 13, 2) := by decide +kernel
theorem dX11_smallest_60 : decode cX11_smallest 60 = .ok (.invokevirtual 325, 3) := by decide +kernel
theorem dX11_smallest_63 : decode cX11_smallest 63 = .ok (.ireturn, 1) := by decide +kernel
theorem dX11_count_0 : decode cX11_count 0 = .ok (.iload_n 1, 1) := by decide +kernel
theorem dX11_count_1 : decode cX11_count 1 = .ok (.invokestatic 95, 3) := by decide +kernel
theorem dX11_count_4 : decode cX11_count 4 = .ok (.ifCond .eq 15, 3) := by decide +kernel
theorem dX11_count_7 : decode cX11_count 7 = .ok (.aload_n 0, 1) := by decide +kernel
theorem dX11_count_8 : decode cX11_count 8 = .ok (.getfield 69, 3) := by decide +kernel
theorem dX11_count_11 : decode cX11_count 11 = .ok (.iload_n 1, 1) := by decide +kernel
theorem dX11_count_12 : decode cX11_count 12 = .ok (.invokevirtual 111, 3) := by decide +kernel
theorem dX11_count_15 : decode cX11_count 15 = .ok (.getfield 132, 3) := by decide +kernel
theorem dX11_count_18 : decode cX11_count 18 = .ok (.ireturn, 1) := by decide +kernel
theorem dX11_count_19 : decode cX11_count 19 = .ok (.iload_n 1, 1) := by decide +kernel
theorem dX11_count_20 : decode cX11_count 20 = .ok (.bipush 14, 2) := by decide +kernel
theorem dX11_count_22 : decode cX11_count 22 = .ok (.if_icmp .lt 19, 3) := by decide +kernel
theorem dX11_count_25 : decode cX11_count 25 = .ok (.iload_n 1, 1) := by decide +kernel
theorem dX11_count_26 : decode cX11_count 26 = .ok (.bipush 18, 2) := by decide +kernel
theorem dX11_count_28 : decode cX11_count 28 = .ok (.if_icmp .gt 13, 3) := by decide +kernel
theorem dX11_count_31 : decode cX11_count 31 = .ok (.aload_n 0, 1) := by decide +kernel
theorem dX11_count_32 : decode cX11_count 32 = .ok (.getfield 64, 3) := by decide +kernel
theorem dX11_count_35 : decode cX11_count 35 = .ok (.iload_n 1, 1) := by decide +kernel
theorem dX11_count_36 : decode cX11_count 36 = .ok (.bipush 14, 2) := by decide +kernel
theorem dX11_count_38 : decode cX11_count 38 = .ok (.isub, 1) := by decide +kernel
theorem dX11_count_39 : decode cX11_count 39 = .ok (.iaload, 1) := by decide +kernel
theorem dX11_count_40 : decode cX11_count 40 = .ok (.ireturn, 1) := by decide +kernel
theorem dX11_count_41 : decode cX11_count 41 = .ok (.iload_n 1, 1) := by decide +kernel
theorem dX11_count_42 : decode cX11_count 42 = .ok (.tableswitch 98 8 13 #[38, 49, 60, 71, 82, 90], 38) := by decide +kernel
theorem dX11_count_80 : decode cX11_count 80 = .ok (.aload_n 0, 1) := by decide +kernel
theorem dX11_count_81 : decode cX11_count 81 = .ok (.getfield 69, 3) := by decide +kernel
theorem dX11_count_84 : decode cX11_count 84 = .ok (.getfield 209, 3) := by decide +kernel
theorem dX11_count_87 : decode cX11_count 87 = .ok (.getfield 328, 3) := by decide +kernel
theorem dX11_count_90 : decode cX11_count 90 = .ok (.ireturn, 1) := by decide +kernel
theorem dX11_count_91 : decode cX11_count 91 = .ok (.aload_n 0, 1) := by decide +kernel
theorem dX11_count_92 : decode cX11_count 92 = .ok (.getfield 69, 3) := by decide +kernel
theorem dX11_count_95 : decode cX11_count 95 = .ok (.getfield 209, 3) := by decide +kernel
theorem dX11_count_98 : decode cX11_count 98 = .ok (.getfield 204, 3) := by decide +kernel
theorem dX11_count_101 : decode cX11_count 101 = .ok (.ireturn, 1) := by decide +kernel
theorem dX11_count_102 : decode cX11_count 102 = .ok (.aload_n 0, 1) := by decide +kernel
theorem dX11_count_103 : decode cX11_count 103 = .ok (.getfield 69, 3) := by decide +kernel
theorem dX11_count_106 : decode cX11_count 106 = .ok (.getfield 209, 3) := by decide +kernel
theorem dX11_count_109 : decode cX11_count 109 = .ok (.getfield 337, 3) := by decide +kernel
theorem dX11_count_112 : decode cX11_count 112 = .ok (.ireturn, 1) := by decide +kernel
theorem dX11_count_113 : decode cX11_count 113 = .ok (.aload_n 0, 1) := by decide +kernel
theorem dX11_count_114 : decode cX11_count 114 = .ok (.getfield 69, 3) := by decide +kernel
theorem dX11_count_117 : decode cX11_count 117 = .ok (.getfield 209, 3) := by decide +kernel
theorem dX11_count_120 : decode cX11_count 120 = .ok (.getfield 340, 3) := by decide +kernel
theorem dX11_count_123 : decode cX11_count 123 = .ok (.ireturn, 1) := by decide +kernel
theorem dX11_count_124 : decode cX11_count 124 = .ok (.aload_n 0, 1) := by decide +kernel
theorem dX11_count_125 : decode cX11_count 125 = .ok (.getfield 47, 3) := by decide +kernel
theorem dX11_count_128 : decode cX11_count 128 = .ok (.getfield 218, 3) := by decide +kernel
theorem dX11_count_131 : decode cX11_count 131 = .ok (.ireturn, 1) := by decide +kernel
theorem dX11_count_132 : decode cX11_count 132 = .ok (.aload_n 0, 1) := by decide +kernel
theorem dX11_count_133 : decode cX11_count 133 = .ok (.getfield 12, 3) := by decide +kernel
theorem dX11_count_136 : decode cX11_count 136 = .ok (.getfield 88, 3) := by decide +kernel
theorem dX11_count_139 : decode cX11_count 139 = .ok (.ireturn, 1) := by decide +kernel
theorem dX11_count_140 : decode cX11_count 140 = .ok (.iconst (-1), 1) := by decide +kernel
theorem dX11_count_141 : decode cX11_count 141 = .ok (.ireturn, 1) := by decide +kernel
theorem dX11_status_0 : decode cX11_status 0 = .ok (.aload_n 0, 1) := by decide +kernel
theorem dX11_status_1 : decode cX11_status 1 = .ok (.getfield 77, 3) := by decide +kernel
theorem dX11_status_4 : decode cX11_status 4 = .ok (.ireturn, 1) := by decide +kernel
theorem dX11_isPlace_0 : decode cX11_isPlace 0 = .ok (.iload_n 0, 1) := by decide +kernel
theorem dX11_isPlace_1 : decode cX11_isPlace 1 = .ok (.ifCond .lt 13, 3) := by decide +kernel
theorem dX11_isPlace_4 : decode cX11_isPlace 4 = .ok (.iload_n 0, 1) := by decide +kernel
theorem dX11_isPlace_5 : decode cX11_isPlace 5 = .ok (.bipush 8, 2) := by decide +kernel
theorem dX11_isPlace_7 : decode cX11_isPlace 7 = .ok (.if_icmp .ge 7, 3) := by decide +kernel
theorem dX11_isPlace_10 : decode cX11_isPlace 10 = .ok (.iconst 1, 1) := by decide +kernel
theorem dX11_isPlace_11 : decode cX11_isPlace 11 = .ok (.goto 4, 3) := by decide +kernel
theorem dX11_isPlace_14 : decode cX11_isPlace 14 = .ok (.iconst 0, 1) := by decide +kernel
theorem dX11_isPlace_15 : decode cX11_isPlace 15 = .ok (.ireturn, 1) := by decide +kernel
theorem dX11_isPower_0 : decode cX11_isPower 0 = .ok (.iload_n 0, 1) := by decide +kernel
theorem dX11_isPower_1 : decode cX11_isPower 1 = .ok (.ifCond .lt 13, 3) := by decide +kernel
theorem dX11_isPower_4 : decode cX11_isPower 4 = .ok (.iload_n 0, 1) := by decide +kernel
theorem dX11_isPower_5 : decode cX11_isPower 5 = .ok (.bipush 12, 2) := by decide +kernel
theorem dX11_isPower_7 : decode cX11_isPower 7 = .ok (.if_icmp .gt 7, 3) := by decide +kernel
theorem dX11_isPower_10 : decode cX11_isPower 10 = .ok (.iconst 1, 1) := by decide +kernel
theorem dX11_isPower_11 : decode cX11_isPower 11 = .ok (.goto 4, 3) := by decide +kernel
theorem dX11_isPower_14 : decode cX11_isPower 14 = .ok (.iconst 0, 1) := by decide +kernel
theorem dX11_isPower_15 : decode cX11_isPower 15 = .ok (.ireturn, 1) := by decide +kernel
theorem dX11_isLevel_0 : decode cX11_isLevel 0 = .ok (.iload_n 0, 1) := by decide +kernel
theorem dX11_isLevel_1 : decode cX11_isLevel 1 = .ok (.ifCond .lt 13, 3) := by decide +kernel
theorem dX11_isLevel_4 : decode cX11_isLevel 4 = .ok (.iload_n 0, 1) := by decide +kernel
theorem dX11_isLevel_5 : decode cX11_isLevel 5 = .ok (.bipush 6, 2) := by decide +kernel
theorem dX11_isLevel_7 : decode cX11_isLevel 7 = .ok (.if_icmp .gt 7, 3) := by decide +kernel
theorem dX11_isLevel_10 : decode cX11_isLevel 10 = .ok (.iconst 1, 1) := by decide +kernel
theorem dX11_isLevel_11 : decode cX11_isLevel 11 = .ok (.goto 4, 3) := by decide +kernel
theorem dX11_isLevel_14 : decode cX11_isLevel 14 = .ok (.iconst 0, 1) := by decide +kernel
theorem dX11_isLevel_15 : decode cX11_isLevel 15 = .ok (.ireturn, 1) := by decide +kernel
theorem dX11_refuse_0 : decode cX11_refuse 0 = .ok (.aload_n 0, 1) := by decide +kernel
theorem dX11_refuse_1 : decode cX11_refuse 1 = .ok (.iload_n 1, 1) := by decide +kernel
theorem dX11_refuse_2 : decode cX11_refuse 2 = .ok (.putfield 77, 3) := by decide +kernel
theorem dX11_refuse_5 : decode cX11_refuse 5 = .ok (.iload_n 1, 1) := by decide +kernel
theorem dX11_refuse_6 : decode cX11_refuse 6 = .ok (.bipush (-2), 2) := by decide +kernel
theorem dX11_refuse_8 : decode cX11_refuse 8 = .ok (.if_icmp .lt 10, 3) := by decide +kernel
theorem dX11_refuse_11 : decode cX11_refuse 11 = .ok (.iload_n 1, 1) := by decide +kernel
theorem dX11_refuse_12 : decode cX11_refuse 12 = .ok (.ineg, 1) := by decide +kernel
theorem dX11_refuse_13 : decode cX11_refuse 13 = .ok (.iconst 1, 1) := by decide +kernel
theorem dX11_refuse_14 : decode cX11_refuse 14 = .ok (.isub, 1) := by decide +kernel
theorem dX11_refuse_15 : decode cX11_refuse 15 = .ok (.goto 7, 3) := by decide +kernel
theorem dX11_refuse_18 : decode cX11_refuse 18 = .ok (.iload_n 1, 1) := by decide +kernel
theorem dX11_refuse_19 : decode cX11_refuse 19 = .ok (.ineg, 1) := by decide +kernel
theorem dX11_refuse_20 : decode cX11_refuse 20 = .ok (.iconst 2, 1) := by decide +kernel
theorem dX11_refuse_21 : decode cX11_refuse 21 = .ok (.isub, 1) := by decide +kernel
theorem dX11_refuse_22 : decode cX11_refuse 22 = .ok (.istore_n 2, 1) := by decide +kernel
theorem dX11_refuse_23 : decode cX11_refuse 23 = .ok (.iload_n 2, 1) := by decide +kernel
theorem dX11_refuse_24 : decode cX11_refuse 24 = .ok (.ifCond .lt 22, 3) := by decide +kernel
theorem dX11_refuse_27 : decode cX11_refuse 27 = .ok (.iload_n 2, 1) := by decide +kernel
theorem dX11_refuse_28 : decode cX11_refuse 28 = .ok (.aload_n 0, 1) := by decide +kernel
theorem dX11_refuse_29 : decode cX11_refuse 29 = .ok (.getfield 64, 3) := by decide +kernel
theorem dX11_refuse_32 : decode cX11_refuse 32 = .ok (.arraylength, 1) := by decide +kernel
theorem dX11_refuse_33 : decode cX11_refuse 33 = .ok (.if_icmp .ge 13, 3) := by decide +kernel
theorem dX11_refuse_36 : decode cX11_refuse 36 = .ok (.aload_n 0, 1) := by decide +kernel
theorem dX11_refuse_37 : decode cX11_refuse 37 = .ok (.getfield 64, 3) := by decide +kernel
theorem dX11_refuse_40 : decode cX11_refuse 40 = .ok (.iload_n 2, 1) := by decide +kernel
theorem dX11_refuse_41 : decode cX11_refuse 41 = .ok (.dup2, 1) := by decide +kernel
theorem dX11_refuse_42 : decode cX11_refuse 42 = .ok (.iaload, 1) := by decide +kernel
theorem dX11_refuse_43 : decode cX11_refuse 43 = .ok (.iconst 1, 1) := by decide +kernel
theorem dX11_refuse_44 : decode cX11_refuse 44 = .ok (.iadd, 1) := by decide +kernel
theorem dX11_refuse_45 : decode cX11_refuse 45 = .ok (.iastore, 1) := by decide +kernel
theorem dX11_refuse_46 : decode cX11_refuse 46 = .ok (.iload_n 1, 1) := by decide +kernel
theorem dX11_refuse_47 : decode cX11_refuse 47 = .ok (.ireturn, 1) := by decide +kernel
theorem dX11_accept_0 : decode cX11_accept 0 = .ok (.aload_n 0, 1) := by decide +kernel
theorem dX11_accept_1 : decode cX11_accept 1 = .ok (.iconst 0, 1) := by decide +kernel
theorem dX11_accept_2 : decode cX11_accept 2 = .ok (.putfield 77, 3) := by decide +kernel
theorem dX11_accept_5 : decode cX11_accept 5 = .ok (.iload_n 1, 1) := by decide +kernel
theorem dX11_accept_6 : decode cX11_accept 6 = .ok (.ireturn, 1) := by decide +kernel
theorem dX11_putRow_0 : decode cX11_putRow 0 = .ok (.aload_n 0, 1) := by decide +kernel
theorem dX11_putRow_1 : decode cX11_putRow 1 = .ok (.getfield 57, 3) := by decide +kernel
theorem dX11_putRow_4 : decode cX11_putRow 4 = .ok (.invokestatic 343, 3) := by decide +kernel
theorem dX11_putRow_7 : decode cX11_putRow 7 = .ok (.istore_n 3, 1) := by decide +kernel
theorem dX11_putRow_8 : decode cX11_putRow 8 = .ok (.aload_n 0, 1) := by decide +kernel
theorem dX11_putRow_9 : decode cX11_putRow 9 = .ok (.getfield 57, 3) := by decide +kernel
theorem dX11_putRow_12 : decode cX11_putRow 12 = .ok (.iload_n 3, 1) := by decide +kernel
theorem dX11_putRow_13 : decode cX11_putRow 13 = .ok (.invokestatic 347, 3) := by decide +kernel
theorem dX11_putRow_16 : decode cX11_putRow 16 = .ok (.ifCond .ne 10, 3) := by decide +kernel
theorem dX11_putRow_19 : decode cX11_putRow 19 = .ok (.aload_n 0, 1) := by decide +kernel
theorem dX11_putRow_20 : decode cX11_putRow 20 = .ok (.bipush (-5), 2) := by decide +kernel
theorem dX11_putRow_22 : decode cX11_putRow 22 = .ok (.invokevirtual 98, 3) := by decide +kernel
theorem dX11_putRow_25 : decode cX11_putRow 25 = .ok (.ireturn, 1) := by decide +kernel
theorem dX11_putRow_26 : decode cX11_putRow 26 = .ok (.aload_n 0, 1) := by decide +kernel
theorem dX11_putRow_27 : decode cX11_putRow 27 = .ok (.iload_n 1, 1) := by decide +kernel
theorem dX11_putRow_28 : decode cX11_putRow 28 = .ok (.aload_n 0, 1) := by decide +kernel
theorem dX11_putRow_29 : decode cX11_putRow 29 = .ok (.getfield 69, 3) := by decide +kernel
theorem dX11_putRow_32 : decode cX11_putRow 32 = .ok (.iload_n 2, 1) := by decide +kernel
theorem dX11_putRow_33 : decode cX11_putRow 33 = .ok (.new 123, 3) := by decide +kernel
theorem dX11_putRow_36 : decode cX11_putRow 36 = .ok (.dup, 1) := by decide +kernel
theorem dX11_putRow_37 : decode cX11_putRow 37 = .ok (.aload_n 0, 1) := by decide +kernel
theorem dX11_putRow_38 : decode cX11_putRow 38 = .ok (.getfield 57, 3) := by decide +kernel
theorem dX11_putRow_41 : decode cX11_putRow 41 = .ok (.iload_n 3, 1) := by decide +kernel
theorem dX11_putRow_42 : decode cX11_putRow 42 = .ok (.invokespecial 351, 3) := by decide +kernel
theorem dX11_putRow_45 : decode cX11_putRow 45 = .ok (.invokevirtual 354, 3) := by decide +kernel
theorem dX11_putRow_48 : decode cX11_putRow 48 = .ok (.invokevirtual 200, 3) := by decide +kernel
theorem dX11_putRow_51 : decode cX11_putRow 51 = .ok (.aload_n 0, 1) := by decide +kernel
theorem dX11_putRow_52 : decode cX11_putRow 52 = .ok (.iload_n 3, 1) := by decide +kernel
theorem dX11_putRow_53 : decode cX11_putRow 53 = .ok (.invokevirtual 119, 3) := by decide +kernel
theorem dX11_putRow_56 : decode cX11_putRow 56 = .ok (.ireturn, 1) := by decide +kernel
theorem dX11_moveOn_0 : decode cX11_moveOn 0 = .ok (.aload_n 0, 1) := by decide +kernel
theorem dX11_moveOn_1 : decode cX11_moveOn 1 = .ok (.getfield 47, 3) := by decide +kernel
theorem dX11_moveOn_4 : decode cX11_moveOn 4 = .ok (.iload_n 1, 1) := by decide +kernel
theorem dX11_moveOn_5 : decode cX11_moveOn 5 = .ok (.aload_n 0, 1) := by decide +kernel
theorem dX11_moveOn_6 : decode cX11_moveOn 6 = .ok (.getfield 69, 3) := by decide +kernel
theorem dX11_moveOn_9 : decode cX11_moveOn 9 = .ok (.invokevirtual 358, 3) := by decide +kernel
theorem dX11_moveOn_12 : decode cX11_moveOn 12 = .ok (.aload_n 0, 1) := by decide +kernel
theorem dX11_moveOn_13 : decode cX11_moveOn 13 = .ok (.aload_n 2, 1) := by decide +kernel
theorem dX11_moveOn_14 : decode cX11_moveOn 14 = .ok (.putfield 69, 3) := by decide +kernel
theorem dX11_moveOn_17 : decode cX11_moveOn 17 = .ok (.return_, 1) := by decide +kernel
theorem dX11_standsOn_0 : decode cX11_standsOn 0 = .ok (.iload_n 1, 1) := by decide +kernel
theorem dX11_standsOn_1 : decode cX11_standsOn 1 = .ok (.invokestatic 95, 3) := by decide +kernel
theorem dX11_standsOn_4 : decode cX11_standsOn 4 = .ok (.ifCond .eq 34, 3) := by decide +kernel
theorem dX11_standsOn_7 : decode cX11_standsOn 7 = .ok (.iload_n 2, 1) := by decide +kernel
theorem dX11_standsOn_8 : decode cX11_standsOn 8 = .ok (.invokestatic 168, 3) := by decide +kernel
theorem dX11_standsOn_11 : decode cX11_standsOn 11 = .ok (.ifCond .eq 27, 3) := by decide +kernel
theorem dX11_standsOn_14 : decode cX11_standsOn 14 = .ok (.aload_n 0, 1) := by decide +kernel
theorem dX11_standsOn_15 : decode cX11_standsOn 15 = .ok (.getfield 19, 3) := by decide +kernel
theorem dX11_standsOn_18 : decode cX11_standsOn 18 = .ok (.aload_n 0, 1) := by decide +kernel
theorem dX11_standsOn_19 : decode cX11_standsOn 19 = .ok (.getfield 69, 3) := by decide +kernel
theorem dX11_standsOn_22 : decode cX11_standsOn 22 = .ok (.iload_n 1, 1) := by decide +kernel
theorem dX11_standsOn_23 : decode cX11_standsOn 23 = .ok (.invokevirtual 111, 3) := by decide +kernel
theorem dX11_standsOn_26 : decode cX11_standsOn 26 = .ok (.iload_n 2, 1) := by decide +kernel
theorem dX11_standsOn_27 : decode cX11_standsOn 27 = .ok (.invokevirtual 270, 3) := by decide +kernel
theorem dX11_standsOn_30 : decode cX11_standsOn 30 = .ok (.iload_n 2, 1) := by decide +kernel
theorem dX11_standsOn_31 : decode cX11_standsOn 31 = .ok (.if_icmp .ne 7, 3) := by decide +kernel
theorem dX11_standsOn_34 : decode cX11_standsOn 34 = .ok (.iconst 1, 1) := by decide +kernel
theorem dX11_standsOn_35 : decode cX11_standsOn 35 = .ok (.goto 4, 3) := by decide +kernel
theorem dX11_standsOn_38 : decode cX11_standsOn 38 = .ok (.iconst 0, 1) := by decide +kernel
theorem dX11_standsOn_39 : decode cX11_standsOn 39 = .ok (.ireturn, 1) := by decide +kernel
theorem dX11_isMeasureOne_0 : decode cX11_isMeasureOne 0 = .ok (.aload_n 0, 1) := by decide +kernel
theorem dX11_isMeasureOne_1 : decode cX11_isMeasureOne 1 = .ok (.getfield 33, 3) := by decide +kernel
theorem dX11_isMeasureOne_4 : decode cX11_isMeasureOne 4 = .ok (.aload_n 1, 1) := by decide +kernel
theorem dX11_isMeasureOne_5 : decode cX11_isMeasureOne 5 = .ok (.invokevirtual 158, 3) := by decide +kernel
theorem dX11_isMeasureOne_8 : decode cX11_isMeasureOne 8 = .ok (.aload_n 0, 1) := by decide +kernel
theorem dX11_isMeasureOne_9 : decode cX11_isMeasureOne 9 = .ok (.getfield 33, 3) := by decide +kernel
theorem dX11_isMeasureOne_12 : decode cX11_isMeasureOne 12 = .ok (.invokevirtual 360, 3) := by decide +kernel
theorem dX11_isMeasureOne_15 : decode cX11_isMeasureOne 15 = .ok (.ireturn, 1) := by decide +kernel
