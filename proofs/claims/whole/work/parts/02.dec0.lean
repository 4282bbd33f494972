theorem dX0_init_0 : decode cX0_init 0 = .ok (.aload_n 0, 1) := by decide +kernel
theorem dX0_init_1 : decode cX0_init 1 = .ok (.invokespecial 3, 3) := by decide +kernel
theorem dX0_init_4 : decode cX0_init 4 = .ok (.aload_n 0, 1) := by decide +kernel
theorem dX0_init_5 : decode cX0_init 5 = .ok (.new 9, 3) := by decide +kernel
theorem dX0_init_8 : decode cX0_init 8 = .ok (.dup, 1) := by decide +kernel
theorem dX0_init_9 : decode cX0_init 9 = .ok (.ldc 11, 2) := by decide +kernel
theorem dX0_init_11 : decode cX0_init 11 = .ok (.bipush 19, 2) := by decide +kernel
theorem dX0_init_13 : decode cX0_init 13 = .ok (.invokespecial 13, 3) := by decide +kernel
theorem dX0_init_16 : decode cX0_init 16 = .ok (.putfield 16, 3) := by decide +kernel
theorem dX0_init_19 : decode cX0_init 19 = .ok (.aload_n 0, 1) := by decide +kernel
theorem dX0_init_20 : decode cX0_init 20 = .ok (.new 9, 3) := by decide +kernel
theorem dX0_init_23 : decode cX0_init 23 = .ok (.dup, 1) := by decide +kernel
theorem dX0_init_24 : decode cX0_init 24 = .ok (.ldc 22, 2) := by decide +kernel
theorem dX0_init_26 : decode cX0_init 26 = .ok (.bipush 99, 2) := by decide +kernel
theorem dX0_init_28 : decode cX0_init 28 = .ok (.invokespecial 13, 3) := by decide +kernel
theorem dX0_init_31 : decode cX0_init 31 = .ok (.putfield 24, 3) := by decide +kernel
theorem dX0_init_34 : decode cX0_init 34 = .ok (.aload_n 0, 1) := by decide +kernel
theorem dX0_init_35 : decode cX0_init 35 = .ok (.new 27, 3) := by decide +kernel
theorem dX0_init_38 : decode cX0_init 38 = .ok (.dup, 1) := by decide +kernel
theorem dX0_init_39 : decode cX0_init 39 = .ok (.aload_n 0, 1) := by decide +kernel
theorem dX0_init_40 : decode cX0_init 40 = .ok (.getfield 16, 3) := by decide +kernel
theorem dX0_init_43 : decode cX0_init 43 = .ok (.aload_n 0, 1) := by decide +kernel
theorem dX0_init_44 : decode cX0_init 44 = .ok (.getfield 24, 3) := by decide +kernel
theorem dX0_init_47 : decode cX0_init 47 = .ok (.invokespecial 29, 3) := by decide +kernel
theorem dX0_init_50 : decode cX0_init 50 = .ok (.putfield 32, 3) := by decide +kernel
theorem dX0_init_53 : decode cX0_init 53 = .ok (.aload_n 0, 1) := by decide +kernel
theorem dX0_init_54 : decode cX0_init 54 = .ok (.new 36, 3) := by decide +kernel
theorem dX0_init_57 : decode cX0_init 57 = .ok (.dup, 1) := by decide +kernel
theorem dX0_init_58 : decode cX0_init 58 = .ok (.invokespecial 38, 3) := by decide +kernel
theorem dX0_init_61 : decode cX0_init 61 = .ok (.putfield 39, 3) := by decide +kernel
theorem dX0_init_64 : decode cX0_init 64 = .ok (.aload_n 0, 1) := by decide +kernel
theorem dX0_init_65 : decode cX0_init 65 = .ok (.bipush 24, 2) := by decide +kernel
theorem dX0_init_67 : decode cX0_init 67 = .ok (.newarray .int, 2) := by decide +kernel
theorem dX0_init_69 : decode cX0_init 69 = .ok (.putfield 43, 3) := by decide +kernel
theorem dX0_init_72 : decode cX0_init 72 = .ok (.aload_n 0, 1) := by decide +kernel
theorem dX0_init_73 : decode cX0_init 73 = .ok (.iconst 0, 1) := by decide +kernel
theorem dX0_init_74 : decode cX0_init 74 = .ok (.putfield 47, 3) := by decide +kernel
theorem dX0_init_77 : decode cX0_init 77 = .ok (.aload_n 0, 1) := by decide +kernel
theorem dX0_init_78 : decode cX0_init 78 = .ok (.iconst 1, 1) := by decide +kernel
theorem dX0_init_79 : decode cX0_init 79 = .ok (.putfield 51, 3) := by decide +kernel
theorem dX0_init_82 : decode cX0_init 82 = .ok (.return_, 1) := by decide +kernel
theorem dX0_copyOf_0 : decode cX0_copyOf 0 = .ok (.aload_n 0, 1) := by decide +kernel
theorem dX0_copyOf_1 : decode cX0_copyOf 1 = .ok (.getfield 16, 3) := by decide +kernel
theorem dX0_copyOf_4 : decode cX0_copyOf 4 = .ok (.aload_n 1, 1) := by decide +kernel
theorem dX0_copyOf_5 : decode cX0_copyOf 5 = .ok (.getfield 16, 3) := by decide +kernel
theorem dX0_copyOf_8 : decode cX0_copyOf 8 = .ok (.invokevirtual 54, 3) := by decide +kernel
theorem dX0_copyOf_11 : decode cX0_copyOf 11 = .ok (.aload_n 0, 1) := by decide +kernel
theorem dX0_copyOf_12 : decode cX0_copyOf 12 = .ok (.getfield 24, 3) := by decide +kernel
theorem dX0_copyOf_15 : decode cX0_copyOf 15 = .ok (.aload_n 1, 1) := by decide +kernel
theorem dX0_copyOf_16 : decode cX0_copyOf 16 = .ok (.getfield 24, 3) := by decide +kernel
theorem dX0_copyOf_19 : decode cX0_copyOf 19 = .ok (.invokevirtual 54, 3) := by decide +kernel
theorem dX0_copyOf_22 : decode cX0_copyOf 22 = .ok (.aload_n 0, 1) := by decide +kernel
theorem dX0_copyOf_23 : decode cX0_copyOf 23 = .ok (.getfield 32, 3) := by decide +kernel
theorem dX0_copyOf_26 : decode cX0_copyOf 26 = .ok (.aload_n 1, 1) := by decide +kernel
theorem dX0_copyOf_27 : decode cX0_copyOf 27 = .ok (.getfield 32, 3) := by decide +kernel
theorem dX0_copyOf_30 : decode cX0_copyOf 30 = .ok (.invokevirtual 58, 3) := by decide +kernel
theorem dX0_copyOf_33 : decode cX0_copyOf 33 = .ok (.aload_n 0, 1) := by decide +kernel
theorem dX0_copyOf_34 : decode cX0_copyOf 34 = .ok (.getfield 39, 3) := by decide +kernel
theorem dX0_copyOf_37 : decode cX0_copyOf 37 = .ok (.aload_n 1, 1) := by decide +kernel
theorem dX0_copyOf_38 : decode cX0_copyOf 38 = .ok (.getfield 39, 3) := by decide +kernel
theorem dX0_copyOf_41 : decode cX0_copyOf 41 = .ok (.invokevirtual 61, 3) := by decide +kernel
theorem dX0_copyOf_44 : decode cX0_copyOf 44 = .ok (.aload_n 1, 1) := by decide +kernel
theorem dX0_copyOf_45 : decode cX0_copyOf 45 = .ok (.getfield 43, 3) := by decide +kernel
theorem dX0_copyOf_48 : decode cX0_copyOf 48 = .ok (.iconst 0, 1) := by decide +kernel
theorem dX0_copyOf_49 : decode cX0_copyOf 49 = .ok (.aload_n 0, 1) := by decide +kernel
theorem dX0_copyOf_50 : decode cX0_copyOf 50 = .ok (.getfield 43, 3) := by decide +kernel
theorem dX0_copyOf_53 : decode cX0_copyOf 53 = .ok (.iconst 0, 1) := by decide +kernel
theorem dX0_copyOf_54 : decode cX0_copyOf 54 = .ok (.bipush 24, 2) := by decide +kernel
theorem dX0_copyOf_56 : decode cX0_copyOf 56 = .ok (.invokestatic 64, 3) := by decide +kernel
theorem dX0_copyOf_59 : decode cX0_copyOf 59 = .ok (.aload_n 0, 1) := by decide +kernel
theorem dX0_copyOf_60 : decode cX0_copyOf 60 = .ok (.aload_n 1, 1) := by decide +kernel
theorem dX0_copyOf_61 : decode cX0_copyOf 61 = .ok (.getfield 47, 3) := by decide +kernel
theorem dX0_copyOf_64 : decode cX0_copyOf 64 = .ok (.putfield 47, 3) := by decide +kernel
theorem dX0_copyOf_67 : decode cX0_copyOf 67 = .ok (.aload_n 0, 1) := by decide +kernel
theorem dX0_copyOf_68 : decode cX0_copyOf 68 = .ok (.aload_n 1, 1) := by decide +kernel
theorem dX0_copyOf_69 : decode cX0_copyOf 69 = .ok (.getfield 51, 3) := by decide +kernel
theorem dX0_copyOf_72 : decode cX0_copyOf 72 = .ok (.putfield 51, 3) := by decide +kernel
theorem dX0_copyOf_75 : decode cX0_copyOf 75 = .ok (.return_, 1) := by decide +kernel
theorem dX0_lawOf_0 : decode cX0_lawOf 0 = .ok (.iload_n 1, 1) := by decide +kernel
theorem dX0_lawOf_1 : decode cX0_lawOf 1 = .ok (.ifCond .ne 10, 3) := by decide +kernel
theorem dX0_lawOf_4 : decode cX0_lawOf 4 = .ok (.aload_n 0, 1) := by decide +kernel
theorem dX0_lawOf_5 : decode cX0_lawOf 5 = .ok (.getfield 16, 3) := by decide +kernel
theorem dX0_lawOf_8 : decode cX0_lawOf 8 = .ok (.goto 7, 3) := by decide +kernel
theorem dX0_lawOf_11 : decode cX0_lawOf 11 = .ok (.aload_n 0, 1) := by decide +kernel
theorem dX0_lawOf_12 : decode cX0_lawOf 12 = .ok (.getfield 24, 3) := by decide +kernel
theorem dX0_lawOf_15 : decode cX0_lawOf 15 = .ok (.areturn, 1) := by decide +kernel
theorem dX0_shuffle_0 : decode cX0_shuffle 0 = .ok (.aload_n 0, 1) := by decide +kernel
theorem dX0_shuffle_1 : decode cX0_shuffle 1 = .ok (.getfield 32, 3) := by decide +kernel
theorem dX0_shuffle_4 : decode cX0_shuffle 4 = .ok (.getfield 70, 3) := by decide +kernel
theorem dX0_shuffle_7 : decode cX0_shuffle 7 = .ok (.istore_n 1, 1) := by decide +kernel
theorem dX0_shuffle_8 : decode cX0_shuffle 8 = .ok (.aload_n 0, 1) := by decide +kernel
theorem dX0_shuffle_9 : decode cX0_shuffle 9 = .ok (.getfield 32, 3) := by decide +kernel
theorem dX0_shuffle_12 : decode cX0_shuffle 12 = .ok (.getfield 73, 3) := by decide +kernel
theorem dX0_shuffle_15 : decode cX0_shuffle 15 = .ok (.istore_n 2, 1) := by decide +kernel
theorem dX0_shuffle_16 : decode cX0_shuffle 16 = .ok (.iload_n 1, 1) := by decide +kernel
theorem dX0_shuffle_17 : decode cX0_shuffle 17 = .ok (.ifCond .le 7, 3) := by decide +kernel
theorem dX0_shuffle_20 : decode cX0_shuffle 20 = .ok (.iload_n 2, 1) := by decide +kernel
theorem dX0_shuffle_21 : decode cX0_shuffle 21 = .ok (.ifCond .gt 4, 3) := by decide +kernel
theorem dX0_shuffle_24 : decode cX0_shuffle 24 = .ok (.return_, 1) := by decide +kernel
theorem dX0_shuffle_25 : decode cX0_shuffle 25 = .ok (.aload_n 0, 1) := by decide +kernel
theorem dX0_shuffle_26 : decode cX0_shuffle 26 = .ok (.invokevirtual 76, 3) := by decide +kernel
theorem dX0_shuffle_29 : decode cX0_shuffle 29 = .ok (.iload_n 2, 1) := by decide +kernel
theorem dX0_shuffle_30 : decode cX0_shuffle 30 = .ok (.irem, 1) := by decide +kernel
theorem dX0_shuffle_31 : decode cX0_shuffle 31 = .ok (.istore_n 3, 1) := by decide +kernel
theorem dX0_shuffle_32 : decode cX0_shuffle 32 = .ok (.aload_n 0, 1) := by decide +kernel
theorem dX0_shuffle_33 : decode cX0_shuffle 33 = .ok (.invokevirtual 76, 3) := by decide +kernel
theorem dX0_shuffle_36 : decode cX0_shuffle 36 = .ok (.iload_n 1, 1) := by decide +kernel
theorem dX0_shuffle_37 : decode cX0_shuffle 37 = .ok (.irem, 1) := by decide +kernel
theorem dX0_shuffle_38 : decode cX0_shuffle 38 = .ok (.istore 4, 2) := by decide +kernel
theorem dX0_shuffle_40 : decode cX0_shuffle 40 = .ok (.aload_n 0, 1) := by decide +kernel
theorem dX0_shuffle_41 : decode cX0_shuffle 41 = .ok (.invokevirtual 76, 3) := by decide +kernel
theorem dX0_shuffle_44 : decode cX0_shuffle 44 = .ok (.iconst 4, 1) := by decide +kernel
theorem dX0_shuffle_45 : decode cX0_shuffle 45 = .ok (.irem, 1) := by decide +kernel
theorem dX0_shuffle_46 : decode cX0_shuffle 46 = .ok (.ifCond .ne 7, 3) := by decide +kernel
theorem dX0_shuffle_49 : decode cX0_shuffle 49 = .ok (.iconst 1, 1) := by decide +kernel
theorem dX0_shuffle_50 : decode cX0_shuffle 50 = .ok (.goto 4, 3) := by decide +kernel
theorem dX0_shuffle_53 : decode cX0_shuffle 53 = .ok (.iconst 0, 1) := by decide +kernel
theorem dX0_shuffle_54 : decode cX0_shuffle 54 = .ok (.istore 5, 2) := by decide +kernel
theorem dX0_shuffle_56 : decode cX0_shuffle 56 = .ok (.aload_n 0, 1) := by decide +kernel
theorem dX0_shuffle_57 : decode cX0_shuffle 57 = .ok (.getfield 32, 3) := by decide +kernel
theorem dX0_shuffle_60 : decode cX0_shuffle 60 = .ok (.iload_n 3, 1) := by decide +kernel
theorem dX0_shuffle_61 : decode cX0_shuffle 61 = .ok (.invokevirtual 80, 3) := by decide +kernel
theorem dX0_shuffle_64 : decode cX0_shuffle 64 = .ok (.ifCond .eq 23, 3) := by decide +kernel
theorem dX0_shuffle_67 : decode cX0_shuffle 67 = .ok (.aload_n 0, 1) := by decide +kernel
theorem dX0_shuffle_68 : decode cX0_shuffle 68 = .ok (.getfield 32, 3) := by decide +kernel
theorem dX0_shuffle_71 : decode cX0_shuffle 71 = .ok (.getfield 84, 3) := by decide +kernel
theorem dX0_shuffle_74 : decode cX0_shuffle 74 = .ok (.iload_n 3, 1) := by decide +kernel
theorem dX0_shuffle_75 : decode cX0_shuffle 75 = .ok (.iload 5, 2) := by decide +kernel
theorem dX0_shuffle_77 : decode cX0_shuffle 77 = .ok (.ifCond .eq 7, 3) := by decide +kernel
theorem dX0_shuffle_80 : decode cX0_shuffle 80 = .ok (.iconst (-1), 1) := by decide +kernel
theorem dX0_shuffle_81 : decode cX0_shuffle 81 = .ok (.goto 5, 3) := by decide +kernel
theorem dX0_shuffle_84 : decode cX0_shuffle 84 = .ok (.iload 4, 2) := by decide +kernel
theorem dX0_shuffle_86 : decode cX0_shuffle 86 = .ok (.iastore, 1) := by decide +kernel
theorem dX0_shuffle_87 : decode cX0_shuffle 87 = .ok (.return_, 1) := by decide +kernel
theorem dX0_nextDraw_0 : decode cX0_nextDraw 0 = .ok (.aload_n 0, 1) := by decide +kernel
theorem dX0_nextDraw_1 : decode cX0_nextDraw 1 = .ok (.aload_n 0, 1) := by decide +kernel
theorem dX0_nextDraw_2 : decode cX0_nextDraw 2 = .ok (.getfield 51, 3) := by decide +kernel
theorem dX0_nextDraw_5 : decode cX0_nextDraw 5 = .ok (.ldc 87, 2) := by decide +kernel
theorem dX0_nextDraw_7 : decode cX0_nextDraw 7 = .ok (.imul, 1) := by decide +kernel
theorem dX0_nextDraw_8 : decode cX0_nextDraw 8 = .ok (.sipush 12345, 3) := by decide +kernel
theorem dX0_nextDraw_11 : decode cX0_nextDraw 11 = .ok (.iadd, 1) := by decide +kernel
theorem dX0_nextDraw_12 : decode cX0_nextDraw 12 = .ok (.putfield 51, 3) := by decide +kernel
theorem dX0_nextDraw_15 : decode cX0_nextDraw 15 = .ok (.aload_n 0, 1) := by decide +kernel
theorem dX0_nextDraw_16 : decode cX0_nextDraw 16 = .ok (.getfield 51, 3) := by decide +kernel
theorem dX0_nextDraw_19 : decode cX0_nextDraw 19 = .ok (.bipush 8, 2) := by decide +kernel
theorem dX0_nextDraw_21 : decode cX0_nextDraw 21 = .ok (.iushr, 1) := by decide +kernel
theorem dX0_nextDraw_22 : decode cX0_nextDraw 22 = .ok (.ireturn, 1) := by decide +kernel
theorem dX0_firstWrongLoad_0 : decode cX0_firstWrongLoad 0 = .ok (.iconst 0, 1) := by decide +kernel
theorem dX0_firstWrongLoad_1 : decode cX0_firstWrongLoad 1 = .ok (.istore_n 1, 1) := by decide +kernel
theorem dX0_firstWrongLoad_2 : decode cX0_firstWrongLoad 2 = .ok (.iload_n 1, 1) := by decide +kernel
theorem dX0_firstWrongLoad_3 : decode cX0_firstWrongLoad 3 = .ok (.aload_n 0, 1) := by decide +kernel
theorem dX0_firstWrongLoad_4 : decode cX0_firstWrongLoad 4 = .ok (.getfield 47, 3) := by decide +kernel
theorem dX0_firstWrongLoad_7 : decode cX0_firstWrongLoad 7 = .ok (.if_icmp .ge 48, 3) := by decide +kernel
theorem dX0_firstWrongLoad_10 : decode cX0_firstWrongLoad 10 = .ok (.iload_n 1, 1) := by decide +kernel
theorem dX0_firstWrongLoad_11 : decode cX0_firstWrongLoad 11 = .ok (.aload_n 0, 1) := by decide +kernel
theorem dX0_firstWrongLoad_12 : decode cX0_firstWrongLoad 12 = .ok (.getfield 43, 3) := by decide +kernel
theorem dX0_firstWrongLoad_15 : decode cX0_firstWrongLoad 15 = .ok (.arraylength, 1) := by decide +kernel
theorem dX0_firstWrongLoad_16 : decode cX0_firstWrongLoad 16 = .ok (.if_icmp .ge 39, 3) := by decide +kernel
theorem dX0_firstWrongLoad_19 : decode cX0_firstWrongLoad 19 = .ok (.aload_n 0, 1) := by decide +kernel
theorem dX0_firstWrongLoad_20 : decode cX0_firstWrongLoad 20 = .ok (.getfield 32, 3) := by decide +kernel
theorem dX0_firstWrongLoad_23 : decode cX0_firstWrongLoad 23 = .ok (.iload_n 1, 1) := by decide +kernel
theorem dX0_firstWrongLoad_24 : decode cX0_firstWrongLoad 24 = .ok (.invokevirtual 88, 3) := by decide +kernel
theorem dX0_firstWrongLoad_27 : decode cX0_firstWrongLoad 27 = .ok (.ifCond .eq 20, 3) := by decide +kernel
theorem dX0_firstWrongLoad_30 : decode cX0_firstWrongLoad 30 = .ok (.aload_n 0, 1) := by decide +kernel
theorem dX0_firstWrongLoad_31 : decode cX0_firstWrongLoad 31 = .ok (.getfield 43, 3) := by decide +kernel
theorem dX0_firstWrongLoad_34 : decode cX0_firstWrongLoad 34 = .ok (.iload_n 1, 1) := by decide +kernel
theorem dX0_firstWrongLoad_35 : decode cX0_firstWrongLoad 35 = .ok (.iaload, 1) := by decide +kernel
theorem dX0_firstWrongLoad_36 : decode cX0_firstWrongLoad 36 = .ok (.aload_n 0, 1) := by decide +kernel
theorem dX0_firstWrongLoad_37 : decode cX0_firstWrongLoad 37 = .ok (.getfield 32, 3) := by decide +kernel
theorem dX0_firstWrongLoad_40 : decode cX0_firstWrongLoad 40 = .ok (.iload_n 1, 1) := by decide +kernel
theorem dX0_firstWrongLoad_41 : decode cX0_firstWrongLoad 41 = .ok (.invokevirtual 91, 3) := by decide +kernel
theorem dX0_firstWrongLoad_44 : decode cX0_firstWrongLoad 44 = .ok (.if_icmp .eq 5, 3) := by decide +kernel
theorem dX0_firstWrongLoad_47 : decode cX0_firstWrongLoad 47 = .ok (.iload_n 1, 1) := by decide +kernel
theorem dX0_firstWrongLoad_48 : decode cX0_firstWrongLoad 48 = .ok (.ireturn, 1) := by decide +kernel
theorem dX0_firstWrongLoad_49 : decode cX0_firstWrongLoad 49 = .ok (.iinc 1 1, 3) := by decide +kernel
theorem dX0_firstWrongLoad_52 : decode cX0_firstWrongLoad 52 = .ok (.goto (-50), 3) := by decide +kernel
theorem dX0_firstWrongLoad_55 : decode cX0_firstWrongLoad 55 = .ok (.iconst (-1), 1) := by decide +kernel
theorem dX0_firstWrongLoad_56 : decode cX0_firstWrongLoad 56 = .ok (.ireturn, 1) := by decide +kernel
theorem dX1_init_0 : decode cX1_init 0 = .ok (.aload_n 0, 1) := by decide +kernel
theorem dX1_init_1 : decode cX1_init 1 = .ok (.invokespecial 3, 3) := by decide +kernel
theorem dX1_init_4 : decode cX1_init 4 = .ok (.aload_n 0, 1) := by decide +kernel
theorem dX1_init_5 : decode cX1_init 5 = .ok (.aload_n 1, 1) := by decide +kernel
theorem dX1_init_6 : decode cX1_init 6 = .ok (.putfield 9, 3) := by decide +kernel
theorem dX1_init_9 : decode cX1_init 9 = .ok (.aload_n 0, 1) := by decide +kernel
theorem dX1_init_10 : decode cX1_init 10 = .ok (.iload_n 2, 1) := by decide +kernel
theorem dX1_init_11 : decode cX1_init 11 = .ok (.putfield 15, 3) := by decide +kernel
theorem dX1_init_14 : decode cX1_init 14 = .ok (.aload_n 0, 1) := by decide +kernel
theorem dX1_init_15 : decode cX1_init 15 = .ok (.bipush 60, 2) := by decide +kernel
theorem dX1_init_17 : decode cX1_init 17 = .ok (.newarray .int, 2) := by decide +kernel
theorem dX1_init_19 : decode cX1_init 19 = .ok (.putfield 19, 3) := by decide +kernel
theorem dX1_init_22 : decode cX1_init 22 = .ok (.aload_n 0, 1) := by decide +kernel
theorem dX1_init_23 : decode cX1_init 23 = .ok (.bipush 60, 2) := by decide +kernel
theorem dX1_init_25 : decode cX1_init 25 = .ok (.newarray .int, 2) := by decide +kernel
theorem dX1_init_27 : decode cX1_init 27 = .ok (.putfield 23, 3) := by decide +kernel
theorem dX1_init_30 : decode cX1_init 30 = .ok (.aload_n 0, 1) := by decide +kernel
theorem dX1_init_31 : decode cX1_init 31 = .ok (.iconst 0, 1) := by decide +kernel
theorem dX1_init_32 : decode cX1_init 32 = .ok (.putfield 26, 3) := by decide +kernel
theorem dX1_init_35 : decode cX1_init 35 = .ok (.return_, 1) := by decide +kernel
theorem dX1_copyOf_0 : decode cX1_copyOf 0 = .ok (.aload_n 0, 1) := by decide +kernel
theorem dX1_copyOf_1 : decode cX1_copyOf 1 = .ok (.aload_n 1, 1) := by decide +kernel
theorem dX1_copyOf_2 : decode cX1_copyOf 2 = .ok (.getfield 19, 3) := by decide +kernel
theorem dX1_copyOf_5 : decode cX1_copyOf 5 = .ok (.aload_n 1, 1) := by decide +kernel
theorem dX1_copyOf_6 : decode cX1_copyOf 6 = .ok (.getfield 26, 3) := by decide +kernel
theorem dX1_copyOf_9 : decode cX1_copyOf 9 = .ok (.invokevirtual 29, 3) := by decide +kernel
theorem dX1_copyOf_12 : decode cX1_copyOf 12 = .ok (.return_, 1) := by decide +kernel
theorem dX1_take_0 : decode cX1_take 0 = .ok (.iload_n 2, 1) := by decide +kernel
theorem dX1_take_1 : decode cX1_take 1 = .ok (.ifCond .lt 18, 3) := by decide +kernel
theorem dX1_take_4 : decode cX1_take 4 = .ok (.iload_n 2, 1) := by decide +kernel
theorem dX1_take_5 : decode cX1_take 5 = .ok (.aload_n 0, 1) := by decide +kernel
theorem dX1_take_6 : decode cX1_take 6 = .ok (.getfield 19, 3) := by decide +kernel
theorem dX1_take_9 : decode cX1_take 9 = .ok (.arraylength, 1) := by decide +kernel
theorem dX1_take_10 : decode cX1_take 10 = .ok (.if_icmp .gt 9, 3) := by decide +kernel
theorem dX1_take_13 : decode cX1_take 13 = .ok (.iload_n 2, 1) := by decide +kernel
theorem dX1_take_14 : decode cX1_take 14 = .ok (.aload_n 1, 1) := by decide +kernel
theorem dX1_take_15 : decode cX1_take 15 = .ok (.arraylength, 1) := by decide +kernel
theorem dX1_take_16 : decode cX1_take 16 = .ok (.if_icmp .le 4, 3) := by decide +kernel
theorem dX1_take_19 : decode cX1_take 19 = .ok (.return_, 1) := by decide +kernel
theorem dX1_take_20 : decode cX1_take 20 = .ok (.aload_n 1, 1) := by decide +kernel
theorem dX1_take_21 : decode cX1_take 21 = .ok (.iconst 0, 1) := by decide +kernel
theorem dX1_take_22 : decode cX1_take 22 = .ok (.aload_n 0, 1) := by decide +kernel
theorem dX1_take_23 : decode cX1_take 23 = .ok (.getfield 19, 3) := by decide +kernel
theorem dX1_take_26 : decode cX1_take 26 = .ok (.iconst 0, 1) := by decide +kernel
theorem dX1_take_27 : decode cX1_take 27 = .ok (.iload_n 2, 1) := by decide +kernel
theorem dX1_take_28 : decode cX1_take 28 = .ok (.invokestatic 33, 3) := by decide +kernel
theorem dX1_take_31 : decode cX1_take 31 = .ok (.aload_n 0, 1) := by decide +kernel
theorem dX1_take_32 : decode cX1_take 32 = .ok (.iload_n 2, 1) := by decide +kernel
theorem dX1_take_33 : decode cX1_take 33 = .ok (.putfield 26, 3) := by decide +kernel
theorem dX1_take_36 : decode cX1_take 36 = .ok (.return_, 1) := by decide +kernel
theorem dX1_isTold_0 : decode cX1_isTold 0 = .ok (.aload_n 0, 1) := by decide +kernel
theorem dX1_isTold_1 : decode cX1_isTold 1 = .ok (.getfield 26, 3) := by decide +kernel
theorem dX1_isTold_4 : decode cX1_isTold 4 = .ok (.ifCond .le 7, 3) := by decide +kernel
theorem dX1_isTold_7 : decode cX1_isTold 7 = .ok (.iconst 1, 1) := by decide +kernel
theorem dX1_isTold_8 : decode cX1_isTold 8 = .ok (.goto 4, 3) := by decide +kernel
theorem dX1_isTold_11 : decode cX1_isTold 11 = .ok (.iconst 0, 1) := by decide +kernel
theorem dX1_isTold_12 : decode cX1_isTold 12 = .ok (.ireturn, 1) := by decide +kernel
theorem dX1_gives_0 : decode cX1_gives 0 = .ok (.aload_n 0, 1) := by decide +kernel
theorem dX1_gives_1 : decode cX1_gives 1 = .ok (.invokevirtual 39, 3) := by decide +kernel
theorem dX1_gives_4 : decode cX1_gives 4 = .ok (.ifCond .eq 13, 3) := by decide +kernel
theorem dX1_gives_7 : decode cX1_gives 7 = .ok (.aload_n 0, 1) := by decide +kernel
theorem dX1_gives_8 : decode cX1_gives 8 = .ok (.iload_n 1, 1) := by decide +kernel
theorem dX1_gives_9 : decode cX1_gives 9 = .ok (.iload_n 2, 1) := by decide +kernel
theorem dX1_gives_10 : decode cX1_gives 10 = .ok (.iload_n 3, 1) := by decide +kernel
theorem dX1_gives_11 : decode cX1_gives 11 = .ok (.invokevirtual 43, 3) := by decide +kernel
theorem dX1_gives_14 : decode cX1_gives 14 = .ok (.goto 4, 3) := by decide +kernel
theorem dX1_gives_17 : decode cX1_gives 17 = .ok (.iload_n 1, 1) := by decide +kernel
theorem dX1_gives_18 : decode cX1_gives 18 = .ok (.istore 4, 2) := by decide +kernel
theorem dX1_gives_20 : decode cX1_gives 20 = .ok (.iconst 0, 1) := by decide +kernel
theorem dX1_gives_21 : decode cX1_gives 21 = .ok (.aload_n 0, 1) := by decide +kernel
theorem dX1_gives_22 : decode cX1_gives 22 = .ok (.getfield 15, 3) := by decide +kernel
theorem dX1_gives_25 : decode cX1_gives 25 = .ok (.iload 4, 2) := by decide +kernel
theorem dX1_gives_27 : decode cX1_gives 27 = .ok (.invokestatic 47, 3) := by decide +kernel
theorem dX1_gives_30 : decode cX1_gives 30 = .ok (.invokestatic 53, 3) := by decide +kernel
theorem dX1_gives_33 : decode cX1_gives 33 = .ok (.ireturn, 1) := by decide +kernel
theorem dX1_workedOut_0 : decode cX1_workedOut 0 = .ok (.iconst 0, 1) := by decide +kernel
theorem dX1_workedOut_1 : decode cX1_workedOut 1 = .ok (.istore 4, 2) := by decide +kernel
theorem dX1_workedOut_3 : decode cX1_workedOut 3 = .ok (.iconst 0, 1) := by decide +kernel
theorem dX1_workedOut_4 : decode cX1_workedOut 4 = .ok (.istore 5, 2) := by decide +kernel
theorem dX1_workedOut_6 : decode cX1_workedOut 6 = .ok (.iload 5, 2) := by decide +kernel
theorem dX1_workedOut_8 : decode cX1_workedOut 8 = .ok (.aload_n 0, 1) := by decide +kernel
theorem dX1_workedOut_9 : decode cX1_workedOut 9 = .ok (.getfield 26, 3) := by decide +kernel
theorem dX1_workedOut_12 : decode cX1_workedOut 12 = .ok (.if_icmp .ge 147, 3) := by decide +kernel
theorem dX1_workedOut_15 : decode cX1_workedOut 15 = .ok (.iload 5, 2) := by decide +kernel
theorem dX1_workedOut_17 : decode cX1_workedOut 17 = .ok (.aload_n 0, 1) := by decide +kernel
theorem dX1_workedOut_18 : decode cX1_workedOut 18 = .ok (.getfield 19, 3) := by decide +kernel
theorem dX1_workedOut_21 : decode cX1_workedOut 21 = .ok (.arraylength, 1) := by decide +kernel
theorem dX1_workedOut_22 : decode cX1_workedOut 22 = .ok (.if_icmp .ge 137, 3) := by decide +kernel
theorem dX1_workedOut_25 : decode cX1_workedOut 25 = .ok (.aload_n 0, 1) := by decide +kernel
theorem dX1_workedOut_26 : decode cX1_workedOut 26 = .ok (.getfield 19, 3) := by decide +kernel
theorem dX1_workedOut_29 : decode cX1_workedOut 29 = .ok (.iload 5, 2) := by decide +kernel
theorem dX1_workedOut_31 : decode cX1_workedOut 31 = .ok (.iaload, 1) := by decide +kernel
theorem dX1_workedOut_32 : decode cX1_workedOut 32 = .ok (.istore 6, 2) := by decide +kernel
theorem dX1_workedOut_34 : decode cX1_workedOut 34 = .ok (.iload 6, 2) := by decide +kernel
theorem dX1_workedOut_36 : decode cX1_workedOut 36 = .ok (.bipush (-3), 2) := by decide +kernel
theorem dX1_workedOut_38 : decode cX1_workedOut 38 = .ok (.if_icmp .lt 34, 3) := by decide +kernel
theorem dX1_workedOut_41 : decode cX1_workedOut 41 = .ok (.iload 4, 2) := by decide +kernel
theorem dX1_workedOut_43 : decode cX1_workedOut 43 = .ok (.aload_n 0, 1) := by decide +kernel
theorem dX1_workedOut_44 : decode cX1_workedOut 44 = .ok (.getfield 23, 3) := by decide +kernel
theorem dX1_workedOut_47 : decode cX1_workedOut 47 = .ok (.arraylength, 1) := by decide +kernel
theorem dX1_workedOut_48 : decode cX1_workedOut 48 = .ok (.if_icmp .ge 24, 3) := by decide +kernel
theorem dX1_workedOut_51 : decode cX1_workedOut 51 = .ok (.aload_n 0, 1) := by decide +kernel
theorem dX1_workedOut_52 : decode cX1_workedOut 52 = .ok (.getfield 23, 3) := by decide +kernel
theorem dX1_workedOut_55 : decode cX1_workedOut 55 = .ok (.iload 4, 2) := by decide +kernel
theorem dX1_workedOut_57 : decode cX1_workedOut 57 = .ok (.iload 6, 2) := by decide +kernel
theorem dX1_workedOut_59 : decode cX1_workedOut 59 = .ok (.iload_n 1, 1) := by decide +kernel
theorem dX1_workedOut_60 : decode cX1_workedOut 60 = .ok (.iload_n 2, 1) := by decide +kernel
theorem dX1_workedOut_61 : decode cX1_workedOut 61 = .ok (.iload_n 3, 1) := by decide +kernel
theorem dX1_workedOut_62 : decode cX1_workedOut 62 = .ok (.invokestatic 56, 3) := by decide +kernel
theorem dX1_workedOut_65 : decode cX1_workedOut 65 = .ok (.iastore, 1) := by decide +kernel
theorem dX1_workedOut_66 : decode cX1_workedOut 66 = .ok (.iinc 4 1, 3) := by decide +kernel
theorem dX1_workedOut_69 : decode cX1_workedOut 69 = .ok (.goto 84, 3) := by decide +kernel
theorem dX1_workedOut_72 : decode cX1_workedOut 72 = .ok (.iload 6, 2) := by decide +kernel
theorem dX1_workedOut_74 : decode cX1_workedOut 74 = .ok (.bipush (-33), 2) := by decide +kernel
theorem dX1_workedOut_76 : decode cX1_workedOut 76 = .ok (.if_icmp .ne 37, 3) := by decide +kernel
theorem dX1_workedOut_79 : decode cX1_workedOut 79 = .ok (.iload 4, 2) := by decide +kernel
theorem dX1_workedOut_81 : decode cX1_workedOut 81 = .ok (.ifCond .le 32, 3) := by decide +kernel
theorem dX1_workedOut_84 : decode cX1_workedOut 84 = .ok (.aload_n 0, 1) := by decide +kernel
theorem dX1_workedOut_85 : decode cX1_workedOut 85 = .ok (.getfield 23, 3) := by decide +kernel
theorem dX1_workedOut_88 : decode cX1_workedOut 88 = .ok (.iload 4, 2) := by decide +kernel
theorem dX1_workedOut_90 : decode cX1_workedOut 90 = .ok (.iconst 1, 1) := by decide +kernel
theorem dX1_workedOut_91 : decode cX1_workedOut 91 = .ok (.isub, 1) := by decide +kernel
theorem dX1_workedOut_92 : decode cX1_workedOut 92 = .ok (.aload_n 0, 1) := by decide +kernel
theorem dX1_workedOut_93 : decode cX1_workedOut 93 = .ok (.getfield 23, 3) := by decide +kernel
theorem dX1_workedOut_96 : decode cX1_workedOut 96 = .ok (.iload 4, 2) := by decide +kernel
theorem dX1_workedOut_98 : decode cX1_workedOut 98 = .ok (.iconst 1, 1) := by decide +kernel
theorem dX1_workedOut_99 : decode cX1_workedOut 99 = .ok (.isub, 1) := by decide +kernel
theorem dX1_workedOut_100 : decode cX1_workedOut 100 = .ok (.iaload, 1) := by decide +kernel
theorem dX1_workedOut_101 : decode cX1_workedOut 101 = .ok (.ifCond .ne 7, 3) := by decide +kernel
theorem dX1_workedOut_104 : decode cX1_workedOut 104 = .ok (.iconst 1, 1) := by decide +kernel
theorem dX1_workedOut_105 : decode cX1_workedOut 105 = .ok (.goto 4, 3) := by decide +kernel
theorem dX1_workedOut_108 : decode cX1_workedOut 108 = .ok (.iconst 0, 1) := by decide +kernel
theorem dX1_workedOut_109 : decode cX1_workedOut 109 = .ok (.iastore, 1) := by decide +kernel
theorem dX1_workedOut_110 : decode cX1_workedOut 110 = .ok (.goto 43, 3) := by decide +kernel
theorem dX1_workedOut_113 : decode cX1_workedOut 113 = .ok (.iload 4, 2) := by decide +kernel
theorem dX1_workedOut_115 : decode cX1_workedOut 115 = .ok (.iconst 1, 1) := by decide +kernel
theorem dX1_workedOut_116 : decode cX1_workedOut 116 = .ok (.if_icmp .le 37, 3) := by decide +kernel
theorem dX1_workedOut_119 : decode cX1_workedOut 119 = .ok (.iinc 4 (-1), 3) := by decide +kernel
theorem dX1_workedOut_122 : decode cX1_workedOut 122 = .ok (.aload_n 0, 1) := by decide +kernel
theorem dX1_workedOut_123 : decode cX1_workedOut 123 = .ok (.getfield 23, 3) := by decide +kernel
theorem dX1_workedOut_126 : decode cX1_workedOut 126 = .ok (.iload 4, 2) := by decide +kernel
theorem dX1_workedOut_128 : decode cX1_workedOut 128 = .ok (.iconst 1, 1) := by decide +kernel
theorem dX1_workedOut_129 : decode cX1_workedOut 129 = .ok (.isub, 1) := by decide +kernel
theorem dX1_workedOut_130 : decode cX1_workedOut 130 = .ok (.iload 6, 2) := by decide +kernel
theorem dX1_workedOut_132 : decode cX1_workedOut 132 = .ok (.ineg, 1) := by decide +kernel
theorem dX1_workedOut_133 : decode cX1_workedOut 133 = .ok (.aload_n 0, 1) := by decide +kernel
theorem dX1_workedOut_134 : decode cX1_workedOut 134 = .ok (.getfield 23, 3) := by decide +kernel
theorem dX1_workedOut_137 : decode cX1_workedOut 137 = .ok (.iload 4, 2) := by decide +kernel
theorem dX1_workedOut_139 : decode cX1_workedOut 139 = .ok (.iconst 1, 1) := by decide +kernel
theorem dX1_workedOut_140 : decode cX1_workedOut 140 = .ok (.isub, 1) := by decide +kernel
theorem dX1_workedOut_141 : decode cX1_workedOut 141 = .ok (.iaload, 1) := by decide +kernel
theorem dX1_workedOut_142 : decode cX1_workedOut 142 = .ok (.aload_n 0, 1) := by decide +kernel
theorem dX1_workedOut_143 : decode cX1_workedOut 143 = .ok (.getfield 23, 3) := by decide +kernel
theorem dX1_workedOut_146 : decode cX1_workedOut 146 = .ok (.iload 4, 2) := by decide +kernel
theorem dX1_workedOut_148 : decode cX1_workedOut 148 = .ok (.iaload, 1) := by decide +kernel
theorem dX1_workedOut_149 : decode cX1_workedOut 149 = .ok (.invokestatic 60, 3) := by decide +kernel
theorem dX1_workedOut_152 : decode cX1_workedOut 152 = .ok (.iastore, 1) := by decide +kernel
theorem dX1_workedOut_153 : decode cX1_workedOut 153 = .ok (.iinc 5 1, 3) := by decide +kernel
theorem dX1_workedOut_156 : decode cX1_workedOut 156 = .ok (.goto (-150), 3) := by decide +kernel
theorem dX1_workedOut_159 : decode cX1_workedOut 159 = .ok (.aload_n 0, 1) := by decide +kernel
theorem dX1_workedOut_160 : decode cX1_workedOut 160 = .ok (.getfield 23, 3) := by decide +kernel
theorem dX1_workedOut_163 : decode cX1_workedOut 163 = .ok (.iconst 0, 1) := by decide +kernel
theorem dX1_workedOut_164 : decode cX1_workedOut 164 = .ok (.iaload, 1) := by decide +kernel
theorem dX1_workedOut_165 : decode cX1_workedOut 165 = .ok (.ireturn, 1) := by decide +kernel
theorem dX1_meant_0 : decode cX1_meant 0 = .ok (.iload_n 0, 1) := by decide +kernel
theorem dX1_meant_1 : decode cX1_meant 1 = .ok (.tableswitch 33 (-3) (-1) #[31, 29, 27], 27) := by decide +kernel
theorem dX1_meant_28 : decode cX1_meant 28 = .ok (.iload_n 1, 1) := by decide +kernel
theorem dX1_meant_29 : decode cX1_meant 29 = .ok (.ireturn, 1) := by decide +kernel
theorem dX1_meant_30 : decode cX1_meant 30 = .ok (.iload_n 2, 1) := by decide +kernel
theorem dX1_meant_31 : decode cX1_meant 31 = .ok (.ireturn, 1) := by decide +kernel
theorem dX1_meant_32 : decode cX1_meant 32 = .ok (.iload_n 3, 1) := by decide +kernel
theorem dX1_meant_33 : decode cX1_meant 33 = .ok (.ireturn, 1) := by decide +kernel
theorem dX1_meant_34 : decode cX1_meant 34 = .ok (.iload_n 0, 1) := by decide +kernel
theorem dX1_meant_35 : decode cX1_meant 35 = .ok (.ireturn, 1) := by decide +kernel
theorem dX1_joined_0 : decode cX1_joined 0 = .ok (.iload_n 0, 1) := by decide +kernel
theorem dX1_joined_1 : decode cX1_joined 1 = .ok (.lookupswitch 188 #[(37, 176), (38, 105), (42, 160), (43, 152), (45, 156), (47, 164), (60, 119), (61, 130), (62, 141), (124, 91)], 91) := by decide +kernel
theorem dX1_joined_92 : decode cX1_joined 92 = .ok (.iload_n 1, 1) := by decide +kernel
theorem dX1_joined_93 : decode cX1_joined 93 = .ok (.ifCond .ne 7, 3) := by decide +kernel
theorem dX1_joined_96 : decode cX1_joined 96 = .ok (.iload_n 2, 1) := by decide +kernel
theorem dX1_joined_97 : decode cX1_joined 97 = .ok (.ifCond .eq 7, 3) := by decide +kernel
theorem dX1_joined_100 : decode cX1_joined 100 = .ok (.iconst 1, 1) := by decide +kernel
theorem dX1_joined_101 : decode cX1_joined 101 = .ok (.goto 4, 3) := by decide +kernel
theorem dX1_joined_104 : decode cX1_joined 104 = .ok (.iconst 0, 1) := by decide +kernel
theorem dX1_joined_105 : decode cX1_joined 105 = .ok (.ireturn, 1) := by decide +kernel
theorem dX1_joined_106 : decode cX1_joined 106 = .ok (.iload_n 1, 1) := by decide +kernel
theorem dX1_joined_107 : decode cX1_joined 107 = .ok (.ifCond .eq 11, 3) := by decide +kernel
theorem dX1_joined_110 : decode cX1_joined 110 = .ok (.iload_n 2, 1) := by decide +kernel
theorem dX1_joined_111 : decode cX1_joined 111 = .ok (.ifCond .eq 7, 3) := by decide +kernel
theorem dX1_joined_114 : decode cX1_joined 114 = .ok (.iconst 1, 1) := by decide +kernel
theorem dX1_joined_115 : decode cX1_joined 115 = .ok (.goto 4, 3) := by decide +kernel
theorem dX1_joined_118 : decode cX1_joined 118 = .ok (.iconst 0, 1) := by decide +kernel
theorem dX1_joined_119 : decode cX1_joined 119 = .ok (.ireturn, 1) := by decide +kernel
theorem dX1_joined_120 : decode cX1_joined 120 = .ok (.iload_n 1, 1) := by decide +kernel
theorem dX1_joined_121 : decode cX1_joined 121 = .ok (.iload_n 2, 1) := by decide +kernel
theorem dX1_joined_122 : decode cX1_joined 122 = .ok (.if_icmp .ge 7, 3) := by decide +kernel
theorem dX1_joined_125 : decode cX1_joined 125 = .ok (.iconst 1, 1) := by decide +kernel
theorem dX1_joined_126 : decode cX1_joined 126 = .ok (.goto 4, 3) := by decide +kernel
theorem dX1_joined_129 : decode cX1_joined 129 = .ok (.iconst 0, 1) := by decide +kernel
theorem dX1_joined_130 : decode cX1_joined 130 = .ok (.ireturn, 1) := by decide +kernel
theorem dX1_joined_131 : decode cX1_joined 131 = .ok (.iload_n 1, 1) := by decide +kernel
theorem dX1_joined_132 : decode cX1_joined 132 = .ok (.iload_n 2, 1) := by decide +kernel
theorem dX1_joined_133 : decode cX1_joined 133 = .ok (.if_icmp .ne 7, 3) := by decide +kernel
theorem dX1_joined_136 : decode cX1_joined 136 = .ok (.iconst 1, 1) := by decide +kernel
theorem dX1_joined_137 : decode cX1_joined 137 = .ok (.goto 4, 3) := by decide +kernel
theorem dX1_joined_140 : decode cX1_joined 140 = .ok (.iconst 0, 1) := by decide +kernel
theorem dX1_joined_141 : decode cX1_joined 141 = .ok (.ireturn, 1) := by decide +kernel
theorem dX1_joined_142 : decode cX1_joined 142 = .ok (.iload_n 1, 1) := by decide +kernel
theorem dX1_joined_143 : decode cX1_joined 143 = .ok (.iload_n 2, 1) := by decide +kernel
theorem dX1_joined_144 : decode cX1_joined 144 = .ok (.if_icmp .le 7, 3) := by decide +kernel
theorem dX1_joined_147 : decode cX1_joined 147 = .ok (.iconst 1, 1) := by decide +kernel
theorem dX1_joined_148 : decode cX1_joined 148 = .ok (.goto 4, 3) := by decide +kernel
theorem dX1_joined_151 : decode cX1_joined 151 = .ok (.iconst 0, 1) := by decide +kernel
theorem dX1_joined_152 : decode cX1_joined 152 = .ok (.ireturn, 1) := by decide +kernel
theorem dX1_joined_153 : decode cX1_joined 153 = .ok (.iload_n 1, 1) := by decide +kernel
theorem dX1_joined_154 : decode cX1_joined 154 = .ok (.iload_n 2, 1) := by decide +kernel
theorem dX1_joined_155 : decode cX1_joined 155 = .ok (.iadd, 1) := by decide +kernel
theorem dX1_joined_156 : decode cX1_joined 156 = .ok (.ireturn, 1) := by decide +kernel
theorem dX1_joined_157 : decode cX1_joined 157 = .ok (.iload_n 1, 1) := by decide +kernel
theorem dX1_joined_158 : decode cX1_joined 158 = .ok (.iload_n 2, 1) := by decide +kernel
theorem dX1_joined_159 : decode cX1_joined 159 = .ok (.isub, 1) := by decide +kernel
theorem dX1_joined_160 : decode cX1_joined 160 = .ok (.ireturn, 1) := by decide +kernel
theorem dX1_joined_161 : decode cX1_joined 161 = .ok (.iload_n 1, 1) := by decide +kernel
theorem dX1_joined_162 : decode cX1_joined 162 = .ok (.iload_n 2, 1) := by decide +kernel
theorem dX1_joined_163 : decode cX1_joined 163 = .ok (.imul, 1) := by decide +kernel
theorem dX1_joined_164 : decode cX1_joined 164 = .ok (.ireturn, 1) := by decide +kernel
theorem dX1_joined_165 : decode cX1_joined 165 = .ok (.iload_n 2, 1) := by decide +kernel
theorem dX1_joined_166 : decode cX1_joined 166 = .ok (.ifCond .ne 7, 3) := by decide +kernel
theorem dX1_joined_169 : decode cX1_joined 169 = .ok (.iconst 0, 1) := by decide +kernel
theorem dX1_joined_170 : decode cX1_joined 170 = .ok (.goto 6, 3) := by decide +kernel
theorem dX1_joined_173 : decode cX1_joined 173 = .ok (.iload_n 1, 1) := by decide +kernel
theorem dX1_joined_174 : decode cX1_joined 174 = .ok (.iload_n 2, 1) := by decide +kernel
theorem dX1_joined_175 : decode cX1_joined 175 = .ok (.idiv, 1) := by decide +kernel
theorem dX1_joined_176 : decode cX1_joined 176 = .ok (.ireturn, 1) := by decide +kernel
theorem dX1_joined_177 : decode cX1_joined 177 = .ok (.iload_n 2, 1) := by decide +kernel
theorem dX1_joined_178 : decode cX1_joined 178 = .ok (.ifCond .ne 7, 3) := by decide +kernel
theorem dX1_joined_181 : decode cX1_joined 181 = .ok (.iconst 0, 1) := by decide +kernel
theorem dX1_joined_182 : decode cX1_joined 182 = .ok (.goto 6, 3) := by decide +kernel
theorem dX1_joined_185 : decode cX1_joined 185 = .ok (.iload_n 1, 1) := by decide +kernel
theorem dX1_joined_186 : decode cX1_joined 186 = .ok (.iload_n 2, 1) := by decide +kernel
theorem dX1_joined_187 : decode cX1_joined 187 = .ok (.irem, 1) := by decide +kernel
theorem dX1_joined_188 : decode cX1_joined 188 = .ok (.ireturn, 1) := by decide +kernel
theorem dX1_joined_189 : decode cX1_joined 189 = .ok (.iconst 0, 1) := by decide +kernel
theorem dX1_joined_190 : decode cX1_joined 190 = .ok (.ireturn, 1) := by decide +kernel
theorem dX2_init_0 : decode cX2_init 0 = .ok (.aload_n 0, 1) := by decide +kernel
theorem dX2_init_1 : decode cX2_init 1 = .ok (.invokespecial 3, 3) := by decide +kernel
theorem dX2_init_4 : decode cX2_init 4 = .ok (.aload_n 0, 1) := by decide +kernel
theorem dX2_init_5 : decode cX2_init 5 = .ok (.aload_n 1, 1) := by decide +kernel
theorem dX2_init_6 : decode cX2_init 6 = .ok (.putfield 9, 3) := by decide +kernel
theorem dX2_init_9 : decode cX2_init 9 = .ok (.aload_n 0, 1) := by decide +kernel
theorem dX2_init_10 : decode cX2_init 10 = .ok (.aload_n 2, 1) := by decide +kernel
theorem dX2_init_11 : decode cX2_init 11 = .ok (.putfield 15, 3) := by decide +kernel
theorem dX2_init_14 : decode cX2_init 14 = .ok (.aload_n 0, 1) := by decide +kernel
theorem dX2_init_15 : decode cX2_init 15 = .ok (.bipush 6, 2) := by decide +kernel
theorem dX2_init_17 : decode cX2_init 17 = .ok (.newarray .int, 2) := by decide +kernel
theorem dX2_init_19 : decode cX2_init 19 = .ok (.putfield 18, 3) := by decide +kernel
theorem dX2_init_22 : decode cX2_init 22 = .ok (.aload_n 0, 1) := by decide +kernel
theorem dX2_init_23 : decode cX2_init 23 = .ok (.bipush 6, 2) := by decide +kernel
theorem dX2_init_25 : decode cX2_init 25 = .ok (.newarray .int, 2) := by decide +kernel
theorem dX2_init_27 : decode cX2_init 27 = .ok (.putfield 22, 3) := by decide +kernel
theorem dX2_init_30 : decode cX2_init 30 = .ok (.aload_n 0, 1) := by decide +kernel
theorem dX2_init_31 : decode cX2_init 31 = .ok (.bipush 9, 2) := by decide +kernel
theorem dX2_init_33 : decode cX2_init 33 = .ok (.newarray .int, 2) := by decide +kernel
theorem dX2_init_35 : decode cX2_init 35 = .ok (.putfield 25, 3) := by decide +kernel
theorem dX2_init_38 : decode cX2_init 38 = .ok (.aload_n 0, 1) := by decide +kernel
theorem dX2_init_39 : decode cX2_init 39 = .ok (.bipush 9, 2) := by decide +kernel
theorem dX2_init_41 : decode cX2_init 41 = .ok (.newarray .int, 2) := by decide +kernel
theorem dX2_init_43 : decode cX2_init 43 = .ok (.putfield 28, 3) := by decide +kernel
theorem dX2_init_46 : decode cX2_init 46 = .ok (.aload_n 0, 1) := by decide +kernel
theorem dX2_init_47 : decode cX2_init 47 = .ok (.bipush 9, 2) := by decide +kernel
theorem dX2_init_49 : decode cX2_init 49 = .ok (.newarray .int, 2) := by decide +kernel
theorem dX2_init_51 : decode cX2_init 51 = .ok (.putfield 31, 3) := by decide +kernel
theorem dX2_init_54 : decode cX2_init 54 = .ok (.aload_n 0, 1) := by decide +kernel
theorem dX2_init_55 : decode cX2_init 55 = .ok (.bipush 9, 2) := by decide +kernel
theorem dX2_init_57 : decode cX2_init 57 = .ok (.newarray .int, 2) := by decide +kernel
theorem dX2_init_59 : decode cX2_init 59 = .ok (.putfield 34, 3) := by decide +kernel
theorem dX2_init_62 : decode cX2_init 62 = .ok (.aload_n 0, 1) := by decide +kernel
theorem dX2_init_63 : decode cX2_init 63 = .ok (.bipush 6, 2) := by decide +kernel
theorem dX2_init_65 : decode cX2_init 65 = .ok (.newarray .int, 2) := by decide +kernel
theorem dX2_init_67 : decode cX2_init 67 = .ok (.putfield 37, 3) := by decide +kernel
theorem dX2_init_70 : decode cX2_init 70 = .ok (.aload_n 0, 1) := by decide +kernel
theorem dX2_init_71 : decode cX2_init 71 = .ok (.bipush 7, 2) := by decide +kernel
theorem dX2_init_73 : decode cX2_init 73 = .ok (.newarray .int, 2) := by decide +kernel
theorem dX2_init_75 : decode cX2_init 75 = .ok (.putfield 40, 3) := by decide +kernel
theorem dX2_init_78 : decode cX2_init 78 = .ok (.iconst 0, 1) := by decide +kernel
theorem dX2_init_79 : decode cX2_init 79 = .ok (.istore_n 3, 1) := by decide +kernel
theorem dX2_init_80 : decode cX2_init 80 = .ok (.iload_n 3, 1) := by decide +kernel
theorem dX2_init_81 : decode cX2_init 81 = .ok (.bipush 7, 2) := by decide +kernel
theorem dX2_init_83 : decode cX2_init 83 = .ok (.if_icmp .ge 17, 3) := by decide +kernel
theorem dX2_init_86 : decode cX2_init 86 = .ok (.aload_n 0, 1) := by decide +kernel
theorem dX2_init_87 : decode cX2_init 87 = .ok (.getfield 40, 3) := by decide +kernel
theorem dX2_init_90 : decode cX2_init 90 = .ok (.iload_n 3, 1) := by decide +kernel
theorem dX2_init_91 : decode cX2_init 91 = .ok (.bipush 20, 2) := by decide +kernel
theorem dX2_init_93 : decode cX2_init 93 = .ok (.iastore, 1) := by decide +kernel
theorem dX2_init_94 : decode cX2_init 94 = .ok (.iinc 3 1, 3) := by decide +kernel
theorem dX2_init_97 : decode cX2_init 97 = .ok (.goto (-17), 3) := by decide +kernel
theorem dX2_init_100 : decode cX2_init 100 = .ok (.return_, 1) := by decide +kernel
theorem dX2_copyOf_0 : decode cX2_copyOf 0 = .ok (.aload_n 1, 1) := by decide +kernel
theorem dX2_copyOf_1 : decode cX2_copyOf 1 = .ok (.getfield 18, 3) := by decide +kernel
theorem dX2_copyOf_4 : decode cX2_copyOf 4 = .ok (.iconst 0, 1) := by decide +kernel
theorem dX2_copyOf_5 : decode cX2_copyOf 5 = .ok (.aload_n 0, 1) := by decide +kernel
theorem dX2_copyOf_6 : decode cX2_copyOf 6 = .ok (.getfield 18, 3) := by decide +kernel
theorem dX2_copyOf_9 : decode cX2_copyOf 9 = .ok (.iconst 0, 1) := by decide +kernel
theorem dX2_copyOf_10 : decode cX2_copyOf 10 = .ok (.bipush 6, 2) := by decide +kernel
theorem dX2_copyOf_12 : decode cX2_copyOf 12 = .ok (.invokestatic 43, 3) := by decide +kernel
theorem dX2_copyOf_15 : decode cX2_copyOf 15 = .ok (.aload_n 1, 1) := by decide +kernel
theorem dX2_copyOf_16 : decode cX2_copyOf 16 = .ok (.getfield 22, 3) := by decide +kernel
theorem dX2_copyOf_19 : decode cX2_copyOf 19 = .ok (.iconst 0, 1) := by decide +kernel
theorem dX2_copyOf_20 : decode cX2_copyOf 20 = .ok (.aload_n 0, 1) := by decide +kernel
theorem dX2_copyOf_21 : decode cX2_copyOf 21 = .ok (.getfield 22, 3) := by decide +kernel
theorem dX2_copyOf_24 : decode cX2_copyOf 24 = .ok (.iconst 0, 1) := by decide +kernel
theorem dX2_copyOf_25 : decode cX2_copyOf 25 = .ok (.bipush 6, 2) := by decide +kernel
theorem dX2_copyOf_27 : decode cX2_copyOf 27 = .ok (.invokestatic 43, 3) := by decide +kernel
theorem dX2_copyOf_30 : decode cX2_copyOf 30 = .ok (.aload_n 1, 1) := by decide +kernel
theorem dX2_copyOf_31 : decode cX2_copyOf 31 = .ok (.getfield 25, 3) := by decide +kernel
theorem dX2_copyOf_34 : decode cX2_copyOf 34 = .ok (.iconst 0, 1) := by decide +kernel
theorem dX2_copyOf_35 : decode cX2_copyOf 35 = .ok (.aload_n 0, 1) := by decide +kernel
theorem dX2_copyOf_36 : decode cX2_copyOf 36 = .ok (.getfield 25, 3) := by decide +kernel
theorem dX2_copyOf_39 : decode cX2_copyOf 39 = .ok (.iconst 0, 1) := by decide +kernel
theorem dX2_copyOf_40 : decode cX2_copyOf 40 = .ok (.bipush 9, 2) := by decide +kernel
theorem dX2_copyOf_42 : decode cX2_copyOf 42 = .ok (.invokestatic 43, 3) := by decide +kernel
theorem dX2_copyOf_45 : decode cX2_copyOf 45 = .ok (.aload_n 1, 1) := by decide +kernel
theorem dX2_copyOf_46 : decode cX2_copyOf 46 = .ok (.getfield 28, 3) := by decide +kernel
theorem dX2_copyOf_49 : decode cX2_copyOf 49 = .ok (.iconst 0, 1) := by decide +kernel
theorem dX2_copyOf_50 : decode cX2_copyOf 50 = .ok (.aload_n 0, 1) := by decide +kernel
theorem dX2_copyOf_51 : decode cX2_copyOf 51 = .ok (.getfield 28, 3) := by decide +kernel
theorem dX2_copyOf_54 : decode cX2_copyOf 54 = .ok (.iconst 0, 1) := by decide +kernel
theorem dX2_copyOf_55 : decode cX2_copyOf 55 = .ok (.bipush 9, 2) := by decide +kernel
theorem dX2_copyOf_57 : decode cX2_copyOf 57 = .ok (.invokestatic 43, 3) := by decide +kernel
theorem dX2_copyOf_60 : decode cX2_copyOf 60 = .ok (.aload_n 1, 1) := by decide +kernel
theorem dX2_copyOf_61 : decode cX2_copyOf 61 = .ok (.getfield 31, 3) := by decide +kernel
theorem dX2_copyOf_64 : decode cX2_copyOf 64 = .ok (.iconst 0, 1) := by decide +kernel
theorem dX2_copyOf_65 : decode cX2_copyOf 65 = .ok (.aload_n 0, 1) := by decide +kernel
theorem dX2_copyOf_66 : decode cX2_copyOf 66 = .ok (.getfield 31, 3) := by decide +kernel
theorem dX2_copyOf_69 : decode cX2_copyOf 69 = .ok (.iconst 0, 1) := by decide +kernel
theorem dX2_copyOf_70 : decode cX2_copyOf 70 = .ok (.bipush 9, 2) := by decide +kernel
theorem dX2_copyOf_72 : decode cX2_copyOf 72 = .ok (.invokestatic 43, 3) := by decide +kernel
theorem dX2_copyOf_75 : decode cX2_copyOf 75 = .ok (.aload_n 1, 1) := by decide +kernel
theorem dX2_copyOf_76 : decode cX2_copyOf 76 = .ok (.getfield 34, 3) := by decide +kernel
theorem dX2_copyOf_79 : decode cX2_copyOf 79 = .ok (.iconst 0, 1) := by decide +kernel
theorem dX2_copyOf_80 : decode cX2_copyOf 80 = .ok (.aload_n 0, 1) := by decide +kernel
theorem dX2_copyOf_81 : decode cX2_copyOf 81 = .ok (.getfield 34, 3) := by decide +kernel
theorem dX2_copyOf_84 : decode cX2_copyOf 84 = .ok (.iconst 0, 1) := by decide +kernel
theorem dX2_copyOf_85 : decode cX2_copyOf 85 = .ok (.bipush 9, 2) := by decide +kernel
theorem dX2_copyOf_87 : decode cX2_copyOf 87 = .ok (.invokestatic 43, 3) := by decide +kernel
theorem dX2_copyOf_90 : decode cX2_copyOf 90 = .ok (.aload_n 1, 1) := by decide +kernel
theorem dX2_copyOf_91 : decode cX2_copyOf 91 = .ok (.getfield 37, 3) := by decide +kernel
theorem dX2_copyOf_94 : decode cX2_copyOf 94 = .ok (.iconst 0, 1) := by decide +kernel
theorem dX2_copyOf_95 : decode cX2_copyOf 95 = .ok (.aload_n 0, 1) := by decide +kernel
theorem dX2_copyOf_96 : decode cX2_copyOf 96 = .ok (.getfield 37, 3) := by decide +kernel
theorem dX2_copyOf_99 : decode cX2_copyOf 99 = .ok (.iconst 0, 1) := by decide +kernel
theorem dX2_copyOf_100 : decode cX2_copyOf 100 = .ok (.bipush 6, 2) := by decide +kernel
theorem dX2_copyOf_102 : decode cX2_copyOf 102 = .ok (.invokestatic 43, 3) := by decide +kernel
theorem dX2_copyOf_105 : decode cX2_copyOf 105 = .ok (.aload_n 1, 1) := by decide +kernel
theorem dX2_copyOf_106 : decode cX2_copyOf 106 = .ok (.getfield 40, 3) := by decide +kernel
theorem dX2_copyOf_109 : decode cX2_copyOf 109 = .ok (.iconst 0, 1) := by decide +kernel
theorem dX2_copyOf_110 : decode cX2_copyOf 110 = .ok (.aload_n 0, 1) := by decide +kernel
theorem dX2_copyOf_111 : decode cX2_copyOf 111 = .ok (.getfield 40, 3) := by decide +kernel
theorem dX2_copyOf_114 : decode cX2_copyOf 114 = .ok (.iconst 0, 1) := by decide +kernel
theorem dX2_copyOf_115 : decode cX2_copyOf 115 = .ok (.bipush 7, 2) := by decide +kernel
theorem dX2_copyOf_117 : decode cX2_copyOf 117 = .ok (.invokestatic 43, 3) := by decide +kernel
theorem dX2_copyOf_120 : decode cX2_copyOf 120 = .ok (.aload_n 0, 1) := by decide +kernel
theorem dX2_copyOf_121 : decode cX2_copyOf 121 = .ok (.aload_n 1, 1) := by decide +kernel
theorem dX2_copyOf_122 : decode cX2_copyOf 122 = .ok (.getfield 49, 3) := by decide +kernel
theorem dX2_copyOf_125 : decode cX2_copyOf 125 = .ok (.putfield 49, 3) := by decide +kernel
theorem dX2_copyOf_128 : decode cX2_copyOf 128 = .ok (.aload_n 0, 1) := by decide +kernel
theorem dX2_copyOf_129 : decode cX2_copyOf 129 = .ok (.aload_n 1, 1) := by decide +kernel
theorem dX2_copyOf_130 : decode cX2_copyOf 130 = .ok (.getfield 53, 3) := by decide +kernel
theorem dX2_copyOf_133 : decode cX2_copyOf 133 = .ok (.putfield 53, 3) := by decide +kernel
theorem dX2_copyOf_136 : decode cX2_copyOf 136 = .ok (.aload_n 0, 1) := by decide +kernel
theorem dX2_copyOf_137 : decode cX2_copyOf 137 = .ok (.aload_n 1, 1) := by decide +kernel
theorem dX2_copyOf_138 : decode cX2_copyOf 138 = .ok (.getfield 56, 3) := by decide +kernel
theorem dX2_copyOf_141 : decode cX2_copyOf 141 = .ok (.putfield 56, 3) := by decide +kernel
theorem dX2_copyOf_144 : decode cX2_copyOf 144 = .ok (.aload_n 0, 1) := by decide +kernel
theorem dX2_copyOf_145 : decode cX2_copyOf 145 = .ok (.aload_n 1, 1) := by decide +kernel
theorem dX2_copyOf_146 : decode cX2_copyOf 146 = .ok (.getfield 59, 3) := by decide +kernel
theorem dX2_copyOf_149 : decode cX2_copyOf 149 = .ok (.putfield 59, 3) := by decide +kernel
theorem dX2_copyOf_152 : decode cX2_copyOf 152 = .ok (.aload_n 0, 1) := by decide +kernel
theorem dX2_copyOf_153 : decode cX2_copyOf 153 = .ok (.aload_n 1, 1) := by decide +kernel
theorem dX2_copyOf_154 : decode cX2_copyOf 154 = .ok (.getfield 62, 3) := by decide +kernel
theorem dX2_copyOf_157 : decode cX2_copyOf 157 = .ok (.putfield 62, 3) := by decide +kernel
theorem dX2_copyOf_160 : decode cX2_copyOf 160 = .ok (.return_, 1) := by decide +kernel
theorem dX2_isOne_0 : decode cX2_isOne 0 = .ok (.iload_n 1, 1) := by decide +kernel
theorem dX2_isOne_1 : decode cX2_isOne 1 = .ok (.ifCond .lt 21, 3) := by decide +kernel
theorem dX2_isOne_4 : decode cX2_isOne 4 = .ok (.iload_n 1, 1) := by decide +kernel
theorem dX2_isOne_5 : decode cX2_isOne 5 = .ok (.aload_n 0, 1) := by decide +kernel
theorem dX2_isOne_6 : decode cX2_isOne 6 = .ok (.getfield 49, 3) := by decide +kernel
theorem dX2_isOne_9 : decode cX2_isOne 9 = .ok (.if_icmp .ge 13, 3) := by decide +kernel
theorem dX2_isOne_12 : decode cX2_isOne 12 = .ok (.iload_n 1, 1) := by decide +kernel
theorem dX2_isOne_13 : decode cX2_isOne 13 = .ok (.bipush 6, 2) := by decide +kernel
theorem dX2_isOne_15 : decode cX2_isOne 15 = .ok (.if_icmp .ge 7, 3) := by decide +kernel
theorem dX2_isOne_18 : decode cX2_isOne 18 = .ok (.iconst 1, 1) := by decide +kernel
theorem dX2_isOne_19 : decode cX2_isOne 19 = .ok (.goto 4, 3) := by decide +kernel
theorem dX2_isOne_22 : decode cX2_isOne 22 = .ok (.iconst 0, 1) := by decide +kernel
theorem dX2_isOne_23 : decode cX2_isOne 23 = .ok (.ireturn, 1) := by decide +kernel
theorem dX2_isHolder_0 : decode cX2_isHolder 0 = .ok (.iload_n 1, 1) := by decide +kernel
theorem dX2_isHolder_1 : decode cX2_isHolder 1 = .ok (.iconst (-1), 1) := by decide +kernel
theorem dX2_isHolder_2 : decode cX2_isHolder 2 = .ok (.if_icmp .eq 11, 3) := by decide +kernel
theorem dX2_isHolder_5 : decode cX2_isHolder 5 = .ok (.aload_n 0, 1) := by decide +kernel
theorem dX2_isHolder_6 : decode cX2_isHolder 6 = .ok (.iload_n 1, 1) := by decide +kernel
theorem dX2_isHolder_7 : decode cX2_isHolder 7 = .ok (.invokevirtual 65, 3) := by decide +kernel
theorem dX2_isHolder_10 : decode cX2_isHolder 10 = .ok (.ifCond .eq 7, 3) := by decide +kernel
theorem dX2_isHolder_13 : decode cX2_isHolder 13 = .ok (.iconst 1, 1) := by decide +kernel
theorem dX2_isHolder_14 : decode cX2_isHolder 14 = .ok (.goto 4, 3) := by decide +kernel
theorem dX2_isHolder_17 : decode cX2_isHolder 17 = .ok (.iconst 0, 1) := by decide +kernel
theorem dX2_isHolder_18 : decode cX2_isHolder 18 = .ok (.ireturn, 1) := by decide +kernel
theorem dX2_isGate_0 : decode cX2_isGate 0 = .ok (.iload_n 1, 1) := by decide +kernel
theorem dX2_isGate_1 : decode cX2_isGate 1 = .ok (.ifCond .lt 21, 3) := by decide +kernel
theorem dX2_isGate_4 : decode cX2_isGate 4 = .ok (.iload_n 1, 1) := by decide +kernel
theorem dX2_isGate_5 : decode cX2_isGate 5 = .ok (.aload_n 0, 1) := by decide +kernel
theorem dX2_isGate_6 : decode cX2_isGate 6 = .ok (.getfield 53, 3) := by decide +kernel
theorem dX2_isGate_9 : decode cX2_isGate 9 = .ok (.if_icmp .ge 13, 3) := by decide +kernel
theorem dX2_isGate_12 : decode cX2_isGate 12 = .ok (.iload_n 1, 1) := by decide +kernel
theorem dX2_isGate_13 : decode cX2_isGate 13 = .ok (.bipush 9, 2) := by decide +kernel
theorem dX2_isGate_15 : decode cX2_isGate 15 = .ok (.if_icmp .ge 7, 3) := by decide +kernel
theorem dX2_isGate_18 : decode cX2_isGate 18 = .ok (.iconst 1, 1) := by decide +kernel
theorem dX2_isGate_19 : decode cX2_isGate 19 = .ok (.goto 4, 3) := by decide +kernel
theorem dX2_isGate_22 : decode cX2_isGate 22 = .ok (.iconst 0, 1) := by decide +kernel
theorem dX2_isGate_23 : decode cX2_isGate 23 = .ok (.ireturn, 1) := by decide +kernel
theorem dX2_addOne_0 : decode cX2_addOne 0 = .ok (.aload_n 0, 1) := by decide +kernel
theorem dX2_addOne_1 : decode cX2_addOne 1 = .ok (.getfield 49, 3) := by decide +kernel
theorem dX2_addOne_4 : decode cX2_addOne 4 = .ok (.bipush 6, 2) := by decide +kernel
theorem dX2_addOne_6 : decode cX2_addOne 6 = .ok (.if_icmp .lt 5, 3) := by decide +kernel
theorem dX2_addOne_9 : decode cX2_addOne 9 = .ok (.iconst (-1), 1) := by decide +kernel
theorem dX2_addOne_10 : decode cX2_addOne 10 = .ok (.ireturn, 1) := by decide +kernel
theorem dX2_addOne_11 : decode cX2_addOne 11 = .ok (.aload_n 0, 1) := by decide +kernel
theorem dX2_addOne_12 : decode cX2_addOne 12 = .ok (.getfield 18, 3) := by decide +kernel
theorem dX2_addOne_15 : decode cX2_addOne 15 = .ok (.aload_n 0, 1) := by decide +kernel
theorem dX2_addOne_16 : decode cX2_addOne 16 = .ok (.getfield 49, 3) := by decide +kernel
theorem dX2_addOne_19 : decode cX2_addOne 19 = .ok (.iload_n 1, 1) := by decide +kernel
theorem dX2_addOne_20 : decode cX2_addOne 20 = .ok (.iastore, 1) := by decide +kernel
theorem dX2_addOne_21 : decode cX2_addOne 21 = .ok (.aload_n 0, 1) := by decide +kernel
theorem dX2_addOne_22 : decode cX2_addOne 22 = .ok (.getfield 22, 3) := by decide +kernel
theorem dX2_addOne_25 : decode cX2_addOne 25 = .ok (.aload_n 0, 1) := by decide +kernel
theorem dX2_addOne_26 : decode cX2_addOne 26 = .ok (.getfield 49, 3) := by decide +kernel
theorem dX2_addOne_29 : decode cX2_addOne 29 = .ok (.iload_n 2, 1) := by decide +kernel
theorem dX2_addOne_30 : decode cX2_addOne 30 = .ok (.iastore, 1) := by decide +kernel
theorem dX2_addOne_31 : decode cX2_addOne 31 = .ok (.aload_n 0, 1) := by decide +kernel
theorem dX2_addOne_32 : decode cX2_addOne 32 = .ok (.dup, 1) := by decide +kernel
theorem dX2_addOne_33 : decode cX2_addOne 33 = .ok (.getfield 49, 3) := by decide +kernel
theorem dX2_addOne_36 : decode cX2_addOne 36 = .ok (.iconst 1, 1) := by decide +kernel
theorem dX2_addOne_37 : decode cX2_addOne 37 = .ok (.iadd, 1) := by decide +kernel
theorem dX2_addOne_38 : decode cX2_addOne 38 = .ok (.putfield 49, 3) := by decide +kernel
theorem dX2_addOne_41 : decode cX2_addOne 41 = .ok (.aload_n 0, 1) := by decide +kernel
theorem dX2_addOne_42 : decode cX2_addOne 42 = .ok (.getfield 49, 3) := by decide +kernel
theorem dX2_addOne_45 : decode cX2_addOne 45 = .ok (.iconst 1, 1) := by decide +kernel
theorem dX2_addOne_46 : decode cX2_addOne 46 = .ok (.isub, 1) := by decide +kernel
theorem dX2_addOne_47 : decode cX2_addOne 47 = .ok (.ireturn, 1) := by decide +kernel
theorem dX2_addGate_0 : decode cX2_addGate 0 = .ok (.aload_n 0, 1) := by decide +kernel
theorem dX2_addGate_1 : decode cX2_addGate 1 = .ok (.getfield 53, 3) := by decide +kernel
theorem dX2_addGate_4 : decode cX2_addGate 4 = .ok (.bipush 9, 2) := by decide +kernel
theorem dX2_addGate_6 : decode cX2_addGate 6 = .ok (.if_icmp .lt 5, 3) := by decide +kernel
theorem dX2_addGate_9 : decode cX2_addGate 9 = .ok (.iconst (-1), 1) := by decide +kernel
theorem dX2_addGate_10 : decode cX2_addGate 10 = .ok (.ireturn, 1) := by decide +kernel
theorem dX2_addGate_11 : decode cX2_addGate 11 = .ok (.aload_n 0, 1) := by decide +kernel
theorem dX2_addGate_12 : decode cX2_addGate 12 = .ok (.getfield 25, 3) := by decide +kernel
theorem dX2_addGate_15 : decode cX2_addGate 15 = .ok (.aload_n 0, 1) := by decide +kernel
theorem dX2_addGate_16 : decode cX2_addGate 16 = .ok (.getfield 53, 3) := by decide +kernel
theorem dX2_addGate_19 : decode cX2_addGate 19 = .ok (.iload_n 1, 1) := by decide +kernel
theorem dX2_addGate_20 : decode cX2_addGate 20 = .ok (.iastore, 1) := by decide +kernel
theorem dX2_addGate_21 : decode cX2_addGate 21 = .ok (.aload_n 0, 1) := by decide +kernel
theorem dX2_addGate_22 : decode cX2_addGate 22 = .ok (.getfield 28, 3) := by decide +kernel
theorem dX2_addGate_25 : decode cX2_addGate 25 = .ok (.aload_n 0, 1) := by decide +kernel
theorem dX2_addGate_26 : decode cX2_addGate 26 = .ok (.getfield 53, 3) := by decide +kernel
theorem dX2_addGate_29 : decode cX2_addGate 29 = .ok (.iload_n 2, 1) := by decide +kernel
theorem dX2_addGate_30 : decode cX2_addGate 30 = .ok (.iastore, 1) := by decide +kernel
theorem dX2_addGate_31 : decode cX2_addGate 31 = .ok (.aload_n 0, 1) := by decide +kernel
theorem dX2_addGate_32 : decode cX2_addGate 32 = .ok (.getfield 31, 3) := by decide +kernel
theorem dX2_addGate_35 : decode cX2_addGate 35 = .ok (.aload_n 0, 1) := by decide +kernel
theorem dX2_addGate_36 : decode cX2_addGate 36 = .ok (.getfield 53, 3) := by decide +kernel
theorem dX2_addGate_39 : decode cX2_addGate 39 = .ok (.iload_n 3, 1) := by decide +kernel
theorem dX2_addGate_40 : decode cX2_addGate 40 = .ok (.iastore, 1) := by decide +kernel
theorem dX2_addGate_41 : decode cX2_addGate 41 = .ok (.aload_n 0, 1) := by decide +kernel
theorem dX2_addGate_42 : decode cX2_addGate 42 = .ok (.getfield 34, 3) := by decide +kernel
theorem dX2_addGate_45 : decode cX2_addGate 45 = .ok (.aload_n 0, 1) := by decide +kernel
theorem dX2_addGate_46 : decode cX2_addGate 46 = .ok (.getfield 53, 3) := by decide +kernel
theorem dX2_addGate_49 : decode cX2_addGate 49 = .ok (.iconst (-1), 1) := by decide +kernel
theorem dX2_addGate_50 : decode cX2_addGate 50 = .ok (.iastore, 1) := by decide +kernel
theorem dX2_addGate_51 : decode cX2_addGate 51 = .ok (.aload_n 0, 1) := by decide +kernel
theorem dX2_addGate_52 : decode cX2_addGate 52 = .ok (.dup, 1) := by decide +kernel
theorem dX2_addGate_53 : decode cX2_addGate 53 = .ok (.getfield 53, 3) := by decide +kernel
theorem dX2_addGate_56 : decode cX2_addGate 56 = .ok (.iconst 1, 1) := by decide +kernel
theorem dX2_addGate_57 : decode cX2_addGate 57 = .ok (.iadd, 1) := by decide +kernel
theorem dX2_addGate_58 : decode cX2_addGate 58 = .ok (.putfield 53, 3) := by decide +kernel
theorem dX2_addGate_61 : decode cX2_addGate 61 = .ok (.aload_n 0, 1) := by decide +kernel
theorem dX2_addGate_62 : decode cX2_addGate 62 = .ok (.getfield 53, 3) := by decide +kernel
theorem dX2_addGate_65 : decode cX2_addGate 65 = .ok (.iconst 1, 1) := by decide +kernel
theorem dX2_addGate_66 : decode cX2_addGate 66 = .ok (.isub, 1) := by decide +kernel
theorem dX2_addGate_67 : decode cX2_addGate 67 = .ok (.ireturn, 1) := by decide +kernel
theorem dX2_addBeast_0 : decode cX2_addBeast 0 = .ok (.aload_n 0, 1) := by decide +kernel
theorem dX2_addBeast_1 : decode cX2_addBeast 1 = .ok (.getfield 56, 3) := by decide +kernel
theorem dX2_addBeast_4 : decode cX2_addBeast 4 = .ok (.bipush 6, 2) := by decide +kernel
theorem dX2_addBeast_6 : decode cX2_addBeast 6 = .ok (.if_icmp .lt 5, 3) := by decide +kernel
theorem dX2_addBeast_9 : decode cX2_addBeast 9 = .ok (.iconst (-1), 1) := by decide +kernel
theorem dX2_addBeast_10 : decode cX2_addBeast 10 = .ok (.ireturn, 1) := by decide +kernel
theorem dX2_addBeast_11 : decode cX2_addBeast 11 = .ok (.aload_n 0, 1) := by decide +kernel
theorem dX2_addBeast_12 : decode cX2_addBeast 12 = .ok (.getfield 37, 3) := by decide +kernel
theorem dX2_addBeast_15 : decode cX2_addBeast 15 = .ok (.aload_n 0, 1) := by decide +kernel
theorem dX2_addBeast_16 : decode cX2_addBeast 16 = .ok (.getfield 56, 3) := by decide +kernel
theorem dX2_addBeast_19 : decode cX2_addBeast 19 = .ok (.iload_n 1, 1) := by decide +kernel
theorem dX2_addBeast_20 : decode cX2_addBeast 20 = .ok (.iastore, 1) := by decide +kernel
theorem dX2_addBeast_21 : decode cX2_addBeast 21 = .ok (.aload_n 0, 1) := by decide +kernel
theorem dX2_addBeast_22 : decode cX2_addBeast 22 = .ok (.dup, 1) := by decide +kernel
theorem dX2_addBeast_23 : decode cX2_addBeast 23 = .ok (.getfield 56, 3) := by decide +kernel
theorem dX2_addBeast_26 : decode cX2_addBeast 26 = .ok (.iconst 1, 1) := by decide +kernel
theorem dX2_addBeast_27 : decode cX2_addBeast 27 = .ok (.iadd, 1) := by decide +kernel
theorem dX2_addBeast_28 : decode cX2_addBeast 28 = .ok (.putfield 56, 3) := by decide +kernel
theorem dX2_addBeast_31 : decode cX2_addBeast 31 = .ok (.aload_n 0, 1) := by decide +kernel
theorem dX2_addBeast_32 : decode cX2_addBeast 32 = .ok (.getfield 56, 3) := by decide +kernel
theorem dX2_addBeast_35 : decode cX2_addBeast 35 = .ok (.iconst 1, 1) := by decide +kernel
theorem dX2_addBeast_36 : decode cX2_addBeast 36 = .ok (.isub, 1) := by decide +kernel
theorem dX2_addBeast_37 : decode cX2_addBeast 37 = .ok (.ireturn, 1) := by decide +kernel
theorem dX2_openGates_0 : decode cX2_openGates 0 = .ok (.iconst 0, 1) := by decide +kernel
theorem dX2_openGates_1 : decode cX2_openGates 1 = .ok (.istore_n 1, 1) := by decide +kernel
theorem dX2_openGates_2 : decode cX2_openGates 2 = .ok (.iconst 0, 1) := by decide +kernel
theorem dX2_openGates_3 : decode cX2_openGates 3 = .ok (.istore_n 2, 1) := by decide +kernel
theorem dX2_openGates_4 : decode cX2_openGates 4 = .ok (.iload_n 2, 1) := by decide +kernel
theorem dX2_openGates_5 : decode cX2_openGates 5 = .ok (.aload_n 0, 1) := by decide +kernel
theorem dX2_openGates_6 : decode cX2_openGates 6 = .ok (.getfield 53, 3) := by decide +kernel
theorem dX2_openGates_9 : decode cX2_openGates 9 = .ok (.if_icmp .ge 25, 3) := by decide +kernel
theorem dX2_openGates_12 : decode cX2_openGates 12 = .ok (.aload_n 0, 1) := by decide +kernel
theorem dX2_openGates_13 : decode cX2_openGates 13 = .ok (.getfield 34, 3) := by decide +kernel
theorem dX2_openGates_16 : decode cX2_openGates 16 = .ok (.iload_n 2, 1) := by decide +kernel
theorem dX2_openGates_17 : decode cX2_openGates 17 = .ok (.iaload, 1) := by decide +kernel
theorem dX2_openGates_18 : decode cX2_openGates 18 = .ok (.iconst (-1), 1) := by decide +kernel
theorem dX2_openGates_19 : decode cX2_openGates 19 = .ok (.if_icmp .ne 9, 3) := by decide +kernel
theorem dX2_openGates_22 : decode cX2_openGates 22 = .ok (.iload_n 1, 1) := by decide +kernel
theorem dX2_openGates_23 : decode cX2_openGates 23 = .ok (.iconst 1, 1) := by decide +kernel
theorem dX2_openGates_24 : decode cX2_openGates 24 = .ok (.iload_n 2, 1) := by decide +kernel
theorem dX2_openGates_25 : decode cX2_openGates 25 = .ok (.ishl, 1) := by decide +kernel
theorem dX2_openGates_26 : decode cX2_openGates 26 = .ok (.ior, 1) := by decide +kernel
theorem dX2_openGates_27 : decode cX2_openGates 27 = .ok (.istore_n 1, 1) := by decide +kernel
theorem dX2_openGates_28 : decode cX2_openGates 28 = .ok (.iinc 2 1, 3) := by decide +kernel
theorem dX2_openGates_31 : decode cX2_openGates 31 = .ok (.goto (-27), 3) := by decide +kernel
theorem dX2_openGates_34 : decode cX2_openGates 34 = .ok (.iload_n 1, 1) := by decide +kernel
theorem dX2_openGates_35 : decode cX2_openGates 35 = .ok (.ireturn, 1) := by decide +kernel
theorem dX2_heldBy_0 : decode cX2_heldBy 0 = .ok (.iconst 0, 1) := by decide +kernel
theorem dX2_heldBy_1 : decode cX2_heldBy 1 = .ok (.istore_n 2, 1) := by decide +kernel
theorem dX2_heldBy_2 : decode cX2_heldBy 2 = .ok (.iconst 0, 1) := by decide +kernel
theorem dX2_heldBy_3 : decode cX2_heldBy 3 = .ok (.istore_n 3, 1) := by decide +kernel
theorem dX2_heldBy_4 : decode cX2_heldBy 4 = .ok (.iload_n 3, 1) := by decide +kernel
theorem dX2_heldBy_5 : decode cX2_heldBy 5 = .ok (.aload_n 0, 1) := by decide +kernel
theorem dX2_heldBy_6 : decode cX2_heldBy 6 = .ok (.getfield 53, 3) := by decide +kernel
theorem dX2_heldBy_9 : decode cX2_heldBy 9 = .ok (.if_icmp .ge 22, 3) := by decide +kernel
theorem dX2_heldBy_12 : decode cX2_heldBy 12 = .ok (.aload_n 0, 1) := by decide +kernel
theorem dX2_heldBy_13 : decode cX2_heldBy 13 = .ok (.getfield 34, 3) := by decide +kernel
theorem dX2_heldBy_16 : decode cX2_heldBy 16 = .ok (.iload_n 3, 1) := by decide +kernel
theorem dX2_heldBy_17 : decode cX2_heldBy 17 = .ok (.iaload, 1) := by decide +kernel
theorem dX2_heldBy_18 : decode cX2_heldBy 18 = .ok (.iload_n 1, 1) := by decide +kernel
theorem dX2_heldBy_19 : decode cX2_heldBy 19 = .ok (.if_icmp .ne 6, 3) := by decide +kernel
theorem dX2_heldBy_22 : decode cX2_heldBy 22 = .ok (.iinc 2 1, 3) := by decide +kernel
theorem dX2_heldBy_25 : decode cX2_heldBy 25 = .ok (.iinc 3 1, 3) := by decide +kernel
theorem dX2_heldBy_28 : decode cX2_heldBy 28 = .ok (.goto (-24), 3) := by decide +kernel
theorem dX2_heldBy_31 : decode cX2_heldBy 31 = .ok (.iload_n 2, 1) := by decide +kernel
theorem dX2_heldBy_32 : decode cX2_heldBy 32 = .ok (.ireturn, 1) := by decide +kernel
theorem dX2_handOver_0 : decode cX2_handOver 0 = .ok (.iconst 0, 1) := by decide +kernel
theorem dX2_handOver_1 : decode cX2_handOver 1 = .ok (.istore_n 3, 1) := by decide +kernel
theorem dX2_handOver_2 : decode cX2_handOver 2 = .ok (.iconst 0, 1) := by decide +kernel
theorem dX2_handOver_3 : decode cX2_handOver 3 = .ok (.istore 4, 2) := by decide +kernel
theorem dX2_handOver_5 : decode cX2_handOver 5 = .ok (.iload 4, 2) := by decide +kernel
theorem dX2_handOver_7 : decode cX2_handOver 7 = .ok (.aload_n 0, 1) := by decide +kernel
theorem dX2_handOver_8 : decode cX2_handOver 8 = .ok (.getfield 53, 3) := by decide +kernel
theorem dX2_handOver_11 : decode cX2_handOver 11 = .ok (.if_icmp .ge 31, 3) := by decide +kernel
theorem dX2_handOver_14 : decode cX2_handOver 14 = .ok (.aload_n 0, 1) := by decide +kernel
theorem dX2_handOver_15 : decode cX2_handOver 15 = .ok (.getfield 34, 3) := by decide +kernel
theorem dX2_handOver_18 : decode cX2_handOver 18 = .ok (.iload 4, 2) := by decide +kernel
theorem dX2_handOver_20 : decode cX2_handOver 20 = .ok (.iaload, 1) := by decide +kernel
theorem dX2_handOver_21 : decode cX2_handOver 21 = .ok (.iload_n 1, 1) := by decide +kernel
theorem dX2_handOver_22 : decode cX2_handOver 22 = .ok (.if_icmp .ne 14, 3) := by decide +kernel
theorem dX2_handOver_25 : decode cX2_handOver 25 = .ok (.aload_n 0, 1) := by decide +kernel
theorem dX2_handOver_26 : decode cX2_handOver 26 = .ok (.getfield 34, 3) := by decide +kernel
theorem dX2_handOver_29 : decode cX2_handOver 29 = .ok (.iload 4, 2) := by decide +kernel
theorem dX2_handOver_31 : decode cX2_handOver 31 = .ok (.iload_n 2, 1) := by decide +kernel
theorem dX2_handOver_32 : decode cX2_handOver 32 = .ok (.iastore, 1) := by decide +kernel
theorem dX2_handOver_33 : decode cX2_handOver 33 = .ok (.iinc 3 1, 3) := by decide +kernel
theorem dX2_handOver_36 : decode cX2_handOver 36 = .ok (.iinc 4 1, 3) := by decide +kernel
theorem dX2_handOver_39 : decode cX2_handOver 39 = .ok (.goto (-34), 3) := by decide +kernel
theorem dX2_handOver_42 : decode cX2_handOver 42 = .ok (.iload_n 3, 1) := by decide +kernel
theorem dX2_handOver_43 : decode cX2_handOver 43 = .ok (.ireturn, 1) := by decide +kernel
theorem dX2_room_0 : decode cX2_room 0 = .ok (.aload_n 0, 1) := by decide +kernel
theorem dX2_room_1 : decode cX2_room 1 = .ok (.iload_n 1, 1) := by decide +kernel
theorem dX2_room_2 : decode cX2_room 2 = .ok (.invokevirtual 65, 3) := by decide +kernel
theorem dX2_room_5 : decode cX2_room 5 = .ok (.ifCond .ne 5, 3) := by decide +kernel
theorem dX2_room_8 : decode cX2_room 8 = .ok (.iconst 0, 1) := by decide +kernel
theorem dX2_room_9 : decode cX2_room 9 = .ok (.ireturn, 1) := by decide +kernel
theorem dX2_room_10 : decode cX2_room 10 = .ok (.bipush 10, 2) := by decide +kernel
theorem dX2_room_12 : decode cX2_room 12 = .ok (.aload_n 0, 1) := by decide +kernel
theorem dX2_room_13 : decode cX2_room 13 = .ok (.getfield 22, 3) := by decide +kernel
theorem dX2_room_16 : decode cX2_room 16 = .ok (.iload_n 1, 1) := by decide +kernel
theorem dX2_room_17 : decode cX2_room 17 = .ok (.iaload, 1) := by decide +kernel
theorem dX2_room_18 : decode cX2_room 18 = .ok (.iadd, 1) := by decide +kernel
theorem dX2_room_19 : decode cX2_room 19 = .ok (.istore_n 2, 1) := by decide +kernel
theorem dX2_room_20 : decode cX2_room 20 = .ok (.aload_n 0, 1) := by decide +kernel
theorem dX2_room_21 : decode cX2_room 21 = .ok (.getfield 18, 3) := by decide +kernel
theorem dX2_room_24 : decode cX2_room 24 = .ok (.iload_n 1, 1) := by decide +kernel
theorem dX2_room_25 : decode cX2_room 25 = .ok (.iaload, 1) := by decide +kernel
theorem dX2_room_26 : decode cX2_room 26 = .ok (.tableswitch 90 1 6 #[38, 42, 46, 56, 66, 72], 38) := by decide +kernel
theorem dX2_room_64 : decode cX2_room 64 = .ok (.iload_n 2, 1) := by decide +kernel
theorem dX2_room_65 : decode cX2_room 65 = .ok (.iconst 2, 1) := by decide +kernel
theorem dX2_room_66 : decode cX2_room 66 = .ok (.idiv, 1) := by decide +kernel
theorem dX2_room_67 : decode cX2_room 67 = .ok (.ireturn, 1) := by decide +kernel
theorem dX2_room_68 : decode cX2_room 68 = .ok (.iconst 3, 1) := by decide +kernel
theorem dX2_room_69 : decode cX2_room 69 = .ok (.iload_n 2, 1) := by decide +kernel
theorem dX2_room_70 : decode cX2_room 70 = .ok (.imul, 1) := by decide +kernel
theorem dX2_room_71 : decode cX2_room 71 = .ok (.ireturn, 1) := by decide +kernel
theorem dX2_room_72 : decode cX2_room 72 = .ok (.iload_n 2, 1) := by decide +kernel
theorem dX2_room_73 : decode cX2_room 73 = .ok (.aload_n 0, 1) := by decide +kernel
theorem dX2_room_74 : decode cX2_room 74 = .ok (.getfield 59, 3) := by decide +kernel
theorem dX2_room_77 : decode cX2_room 77 = .ok (.bipush 6, 2) := by decide +kernel
theorem dX2_room_79 : decode cX2_room 79 = .ok (.irem, 1) := by decide +kernel
theorem dX2_room_80 : decode cX2_room 80 = .ok (.isub, 1) := by decide +kernel
theorem dX2_room_81 : decode cX2_room 81 = .ok (.ireturn, 1) := by decide +kernel
theorem dX2_room_82 : decode cX2_room 82 = .ok (.iload_n 2, 1) := by decide +kernel
theorem dX2_room_83 : decode cX2_room 83 = .ok (.iconst 2, 1) := by decide +kernel
theorem dX2_room_84 : decode cX2_room 84 = .ok (.idiv, 1) := by decide +kernel
theorem dX2_room_85 : decode cX2_room 85 = .ok (.aload_n 0, 1) := by decide +kernel
theorem dX2_room_86 : decode cX2_room 86 = .ok (.iload_n 1, 1) := by decide +kernel
theorem dX2_room_87 : decode cX2_room 87 = .ok (.invokevirtual 69, 3) := by decide +kernel
theorem dX2_room_90 : decode cX2_room 90 = .ok (.iadd, 1) := by decide +kernel
theorem dX2_room_91 : decode cX2_room 91 = .ok (.ireturn, 1) := by decide +kernel
theorem dX2_room_92 : decode cX2_room 92 = .ok (.iconst 3, 1) := by decide +kernel
theorem dX2_room_93 : decode cX2_room 93 = .ok (.iload_n 2, 1) := by decide +kernel
theorem dX2_room_94 : decode cX2_room 94 = .ok (.imul, 1) := by decide +kernel
theorem dX2_room_95 : decode cX2_room 95 = .ok (.iconst 5, 1) := by decide +kernel
theorem dX2_room_96 : decode cX2_room 96 = .ok (.iadd, 1) := by decide +kernel
theorem dX2_room_97 : decode cX2_room 97 = .ok (.ireturn, 1) := by decide +kernel
theorem dX2_room_98 : decode cX2_room 98 = .ok (.aload_n 0, 1) := by decide +kernel
theorem dX2_room_99 : decode cX2_room 99 = .ok (.getfield 59, 3) := by decide +kernel
theorem dX2_room_102 : decode cX2_room 102 = .ok (.bipush 24, 2) := by decide +kernel
theorem dX2_room_104 : decode cX2_room 104 = .ok (.irem, 1) := by decide +kernel
theorem dX2_room_105 : decode cX2_room 105 = .ok (.bipush 12, 2) := by decide +kernel
theorem dX2_room_107 : decode cX2_room 107 = .ok (.if_icmp .ge 7, 3) := by decide +kernel
theorem dX2_room_110 : decode cX2_room 110 = .ok (.iconst 0, 1) := by decide +kernel
theorem dX2_room_111 : decode cX2_room 111 = .ok (.goto 4, 3) := by decide +kernel
theorem dX2_room_114 : decode cX2_room 114 = .ok (.iload_n 2, 1) := by decide +kernel
theorem dX2_room_115 : decode cX2_room 115 = .ok (.ireturn, 1) := by decide +kernel
theorem dX2_room_116 : decode cX2_room 116 = .ok (.iload_n 2, 1) := by decide +kernel
theorem dX2_room_117 : decode cX2_room 117 = .ok (.ireturn, 1) := by decide +kernel
theorem dX2_cost_0 : decode cX2_cost 0 = .ok (.aload_n 0, 1) := by decide +kernel
theorem dX2_cost_1 : decode cX2_cost 1 = .ok (.getfield 31, 3) := by decide +kernel
theorem dX2_cost_4 : decode cX2_cost 4 = .ok (.iload_n 2, 1) := by decide +kernel
theorem dX2_cost_5 : decode cX2_cost 5 = .ok (.iaload, 1) := by decide +kernel
theorem dX2_cost_6 : decode cX2_cost 6 = .ok (.istore_n 3, 1) := by decide +kernel
theorem dX2_cost_7 : decode cX2_cost 7 = .ok (.aload_n 0, 1) := by decide +kernel
theorem dX2_cost_8 : decode cX2_cost 8 = .ok (.getfield 18, 3) := by decide +kernel
theorem dX2_cost_11 : decode cX2_cost 11 = .ok (.iload_n 1, 1) := by decide +kernel
theorem dX2_cost_12 : decode cX2_cost 12 = .ok (.iaload, 1) := by decide +kernel
theorem dX2_cost_13 : decode cX2_cost 13 = .ok (.tableswitch 79 1 6 #[39, 43, 79, 47, 55, 73], 39) := by decide +kernel
theorem dX2_cost_52 : decode cX2_cost 52 = .ok (.iload_n 3, 1) := by decide +kernel
theorem dX2_cost_53 : decode cX2_cost 53 = .ok (.iconst 1, 1) := by decide +kernel
theorem dX2_cost_54 : decode cX2_cost 54 = .ok (.iadd, 1) := by decide +kernel
theorem dX2_cost_55 : decode cX2_cost 55 = .ok (.ireturn, 1) := by decide +kernel
theorem dX2_cost_56 : decode cX2_cost 56 = .ok (.iconst 2, 1) := by decide +kernel
theorem dX2_cost_57 : decode cX2_cost 57 = .ok (.iload_n 3, 1) := by decide +kernel
theorem dX2_cost_58 : decode cX2_cost 58 = .ok (.imul, 1) := by decide +kernel
theorem dX2_cost_59 : decode cX2_cost 59 = .ok (.ireturn, 1) := by decide +kernel
theorem dX2_cost_60 : decode cX2_cost 60 = .ok (.iload_n 3, 1) := by decide +kernel
theorem dX2_cost_61 : decode cX2_cost 61 = .ok (.iconst 1, 1) := by decide +kernel
theorem dX2_cost_62 : decode cX2_cost 62 = .ok (.iadd, 1) := by decide +kernel
theorem dX2_cost_63 : decode cX2_cost 63 = .ok (.iload_n 3, 1) := by decide +kernel
theorem dX2_cost_64 : decode cX2_cost 64 = .ok (.iconst 2, 1) := by decide +kernel
theorem dX2_cost_65 : decode cX2_cost 65 = .ok (.idiv, 1) := by decide +kernel
theorem dX2_cost_66 : decode cX2_cost 66 = .ok (.isub, 1) := by decide +kernel
theorem dX2_cost_67 : decode cX2_cost 67 = .ok (.ireturn, 1) := by decide +kernel
theorem dX2_cost_68 : decode cX2_cost 68 = .ok (.aload_n 0, 1) := by decide +kernel
theorem dX2_cost_69 : decode cX2_cost 69 = .ok (.getfield 34, 3) := by decide +kernel
theorem dX2_cost_72 : decode cX2_cost 72 = .ok (.iload_n 2, 1) := by decide +kernel
theorem dX2_cost_73 : decode cX2_cost 73 = .ok (.iaload, 1) := by decide +kernel
theorem dX2_cost_74 : decode cX2_cost 74 = .ok (.iconst (-1), 1) := by decide +kernel
theorem dX2_cost_75 : decode cX2_cost 75 = .ok (.if_icmp .ne 7, 3) := by decide +kernel
theorem dX2_cost_78 : decode cX2_cost 78 = .ok (.iconst 0, 1) := by decide +kernel
theorem dX2_cost_79 : decode cX2_cost 79 = .ok (.goto 6, 3) := by decide +kernel
theorem dX2_cost_82 : decode cX2_cost 82 = .ok (.iconst 2, 1) := by decide +kernel
theorem dX2_cost_83 : decode cX2_cost 83 = .ok (.iload_n 3, 1) := by decide +kernel
theorem dX2_cost_84 : decode cX2_cost 84 = .ok (.imul, 1) := by decide +kernel
theorem dX2_cost_85 : decode cX2_cost 85 = .ok (.ireturn, 1) := by decide +kernel
theorem dX2_cost_86 : decode cX2_cost 86 = .ok (.iload_n 3, 1) := by decide +kernel
theorem dX2_cost_87 : decode cX2_cost 87 = .ok (.iload_n 2, 1) := by decide +kernel
theorem dX2_cost_88 : decode cX2_cost 88 = .ok (.iconst 3, 1) := by decide +kernel
theorem dX2_cost_89 : decode cX2_cost 89 = .ok (.irem, 1) := by decide +kernel
theorem dX2_cost_90 : decode cX2_cost 90 = .ok (.iadd, 1) := by decide +kernel
theorem dX2_cost_91 : decode cX2_cost 91 = .ok (.ireturn, 1) := by decide +kernel
theorem dX2_cost_92 : decode cX2_cost 92 = .ok (.iload_n 3, 1) := by decide +kernel
theorem dX2_cost_93 : decode cX2_cost 93 = .ok (.ireturn, 1) := by decide +kernel
theorem dX2_weight_0 : decode cX2_weight 0 = .ok (.aload_n 0, 1) := by decide +kernel
theorem dX2_weight_1 : decode cX2_weight 1 = .ok (.iload_n 1, 1) := by decide +kernel
theorem dX2_weight_2 : decode cX2_weight 2 = .ok (.invokevirtual 65, 3) := by decide +kernel
theorem dX2_weight_5 : decode cX2_weight 5 = .ok (.ifCond .eq 11, 3) := by decide +kernel
theorem dX2_weight_8 : decode cX2_weight 8 = .ok (.aload_n 0, 1) := by decide +kernel
theorem dX2_weight_9 : decode cX2_weight 9 = .ok (.iload_n 2, 1) := by decide +kernel
theorem dX2_weight_10 : decode cX2_weight 10 = .ok (.invokevirtual 73, 3) := by decide +kernel
theorem dX2_weight_13 : decode cX2_weight 13 = .ok (.ifCond .ne 5, 3) := by decide +kernel
theorem dX2_weight_16 : decode cX2_weight 16 = .ok (.iconst 0, 1) := by decide +kernel
theorem dX2_weight_17 : decode cX2_weight 17 = .ok (.ireturn, 1) := by decide +kernel
theorem dX2_weight_18 : decode cX2_weight 18 = .ok (.aload_n 0, 1) := by decide +kernel
theorem dX2_weight_19 : decode cX2_weight 19 = .ok (.getfield 9, 3) := by decide +kernel
theorem dX2_weight_22 : decode cX2_weight 22 = .ok (.aload_n 0, 1) := by decide +kernel
theorem dX2_weight_23 : decode cX2_weight 23 = .ok (.iload_n 1, 1) := by decide +kernel
theorem dX2_weight_24 : decode cX2_weight 24 = .ok (.iload_n 2, 1) := by decide +kernel
theorem dX2_weight_25 : decode cX2_weight 25 = .ok (.invokevirtual 76, 3) := by decide +kernel
theorem dX2_weight_28 : decode cX2_weight 28 = .ok (.aload_n 0, 1) := by decide +kernel
theorem dX2_weight_29 : decode cX2_weight 29 = .ok (.getfield 59, 3) := by decide +kernel
theorem dX2_weight_32 : decode cX2_weight 32 = .ok (.bipush 24, 2) := by decide +kernel
theorem dX2_weight_34 : decode cX2_weight 34 = .ok (.irem, 1) := by decide +kernel
theorem dX2_weight_35 : decode cX2_weight 35 = .ok (.iload_n 2, 1) := by decide +kernel
theorem dX2_weight_36 : decode cX2_weight 36 = .ok (.invokevirtual 80, 3) := by decide +kernel
theorem dX2_weight_39 : decode cX2_weight 39 = .ok (.ireturn, 1) := by decide +kernel
theorem dX2_load_0 : decode cX2_load 0 = .ok (.iconst 0, 1) := by decide +kernel
theorem dX2_load_1 : decode cX2_load 1 = .ok (.istore_n 2, 1) := by decide +kernel
theorem dX2_load_2 : decode cX2_load 2 = .ok (.iconst 0, 1) := by decide +kernel
theorem dX2_load_3 : decode cX2_load 3 = .ok (.istore_n 3, 1) := by decide +kernel
theorem dX2_load_4 : decode cX2_load 4 = .ok (.iload_n 3, 1) := by decide +kernel
theorem dX2_load_5 : decode cX2_load 5 = .ok (.aload_n 0, 1) := by decide +kernel
theorem dX2_load_6 : decode cX2_load 6 = .ok (.getfield 53, 3) := by decide +kernel
theorem dX2_load_9 : decode cX2_load 9 = .ok (.if_icmp .ge 28, 3) := by decide +kernel
theorem dX2_load_12 : decode cX2_load 12 = .ok (.aload_n 0, 1) := by decide +kernel
theorem dX2_load_13 : decode cX2_load 13 = .ok (.getfield 34, 3) := by decide +kernel
theorem dX2_load_16 : decode cX2_load 16 = .ok (.iload_n 3, 1) := by decide +kernel
theorem dX2_load_17 : decode cX2_load 17 = .ok (.iaload, 1) := by decide +kernel
theorem dX2_load_18 : decode cX2_load 18 = .ok (.iload_n 1, 1) := by decide +kernel
theorem dX2_load_19 : decode cX2_load 19 = .ok (.if_icmp .ne 12, 3) := by decide +kernel
theorem dX2_load_22 : decode cX2_load 22 = .ok (.iload_n 2, 1) := by decide +kernel
theorem dX2_load_23 : decode cX2_load 23 = .ok (.aload_n 0, 1) := by decide +kernel
theorem dX2_load_24 : decode cX2_load 24 = .ok (.iload_n 1, 1) := by decide +kernel
theorem dX2_load_25 : decode cX2_load 25 = .ok (.iload_n 3, 1) := by decide +kernel
theorem dX2_load_26 : decode cX2_load 26 = .ok (.invokevirtual 86, 3) := by decide +kernel
theorem dX2_load_29 : decode cX2_load 29 = .ok (.iadd, 1) := by decide +kernel
theorem dX2_load_30 : decode cX2_load 30 = .ok (.istore_n 2, 1) := by decide +kernel
theorem dX2_load_31 : decode cX2_load 31 = .ok (.iinc 3 1, 3) := by decide +kernel
theorem dX2_load_34 : decode cX2_load 34 = .ok (.goto (-30), 3) := by decide +kernel
theorem dX2_load_37 : decode cX2_load 37 = .ok (.iload_n 2, 1) := by decide +kernel
theorem dX2_load_38 : decode cX2_load 38 = .ok (.ireturn, 1) := by decide +kernel
theorem dX2_draw_0 : decode cX2_draw 0 = .ok (.iload_n 1, 1) := by decide +kernel
theorem dX2_draw_1 : decode cX2_draw 1 = .ok (.invokestatic 89, 3) := by decide +kernel
theorem dX2_draw_4 : decode cX2_draw 4 = .ok (.ifCond .ne 5, 3) := by decide +kernel
theorem dX2_draw_7 : decode cX2_draw 7 = .ok (.iconst 0, 1) := by decide +kernel
theorem dX2_draw_8 : decode cX2_draw 8 = .ok (.ireturn, 1) := by decide +kernel
theorem dX2_draw_9 : decode cX2_draw 9 = .ok (.aload_n 0, 1) := by decide +kernel
theorem dX2_draw_10 : decode cX2_draw 10 = .ok (.getfield 15, 3) := by decide +kernel
theorem dX2_draw_13 : decode cX2_draw 13 = .ok (.aload_n 0, 1) := by decide +kernel
theorem dX2_draw_14 : decode cX2_draw 14 = .ok (.getfield 40, 3) := by decide +kernel
theorem dX2_draw_17 : decode cX2_draw 17 = .ok (.iload_n 1, 1) := by decide +kernel
theorem dX2_draw_18 : decode cX2_draw 18 = .ok (.iaload, 1) := by decide +kernel
theorem dX2_draw_19 : decode cX2_draw 19 = .ok (.iload_n 1, 1) := by decide +kernel
theorem dX2_draw_20 : decode cX2_draw 20 = .ok (.aload_n 0, 1) := by decide +kernel
theorem dX2_draw_21 : decode cX2_draw 21 = .ok (.getfield 59, 3) := by decide +kernel
theorem dX2_draw_24 : decode cX2_draw 24 = .ok (.bipush 24, 2) := by decide +kernel
theorem dX2_draw_26 : decode cX2_draw 26 = .ok (.irem, 1) := by decide +kernel
theorem dX2_draw_27 : decode cX2_draw 27 = .ok (.invokevirtual 80, 3) := by decide +kernel
theorem dX2_draw_30 : decode cX2_draw 30 = .ok (.ireturn, 1) := by decide +kernel
theorem dX2_anHour_0 : decode cX2_anHour 0 = .ok (.iconst 0, 1) := by decide +kernel
theorem dX2_anHour_1 : decode cX2_anHour 1 = .ok (.istore_n 1, 1) := by decide +kernel
theorem dX2_anHour_2 : decode cX2_anHour 2 = .ok (.iload_n 1, 1) := by decide +kernel
theorem dX2_anHour_3 : decode cX2_anHour 3 = .ok (.aload_n 0, 1) := by decide +kernel
theorem dX2_anHour_4 : decode cX2_anHour 4 = .ok (.getfield 49, 3) := by decide +kernel
theorem dX2_anHour_7 : decode cX2_anHour 7 = .ok (.if_icmp .ge 27, 3) := by decide +kernel
theorem dX2_anHour_10 : decode cX2_anHour 10 = .ok (.aload_n 0, 1) := by decide +kernel
theorem dX2_anHour_11 : decode cX2_anHour 11 = .ok (.iload_n 1, 1) := by decide +kernel
theorem dX2_anHour_12 : decode cX2_anHour 12 = .ok (.invokevirtual 92, 3) := by decide +kernel
theorem dX2_anHour_15 : decode cX2_anHour 15 = .ok (.aload_n 0, 1) := by decide +kernel
theorem dX2_anHour_16 : decode cX2_anHour 16 = .ok (.iload_n 1, 1) := by decide +kernel
theorem dX2_anHour_17 : decode cX2_anHour 17 = .ok (.invokevirtual 95, 3) := by decide +kernel
theorem dX2_anHour_20 : decode cX2_anHour 20 = .ok (.if_icmp .le 8, 3) := by decide +kernel
theorem dX2_anHour_23 : decode cX2_anHour 23 = .ok (.aload_n 0, 1) := by decide +kernel
theorem dX2_anHour_24 : decode cX2_anHour 24 = .ok (.iload_n 1, 1) := by decide +kernel
theorem dX2_anHour_25 : decode cX2_anHour 25 = .ok (.invokevirtual 98, 3) := by decide +kernel
theorem dX2_anHour_28 : decode cX2_anHour 28 = .ok (.iinc 1 1, 3) := by decide +kernel
theorem dX2_anHour_31 : decode cX2_anHour 31 = .ok (.goto (-29), 3) := by decide +kernel
theorem dX2_anHour_34 : decode cX2_anHour 34 = .ok (.iconst 0, 1) := by decide +kernel
theorem dX2_anHour_35 : decode cX2_anHour 35 = .ok (.istore_n 1, 1) := by decide +kernel
theorem dX2_anHour_36 : decode cX2_anHour 36 = .ok (.iload_n 1, 1) := by decide +kernel
theorem dX2_anHour_37 : decode cX2_anHour 37 = .ok (.aload_n 0, 1) := by decide +kernel
theorem dX2_anHour_38 : decode cX2_anHour 38 = .ok (.getfield 56, 3) := by decide +kernel
theorem dX2_anHour_41 : decode cX2_anHour 41 = .ok (.if_icmp .ge 14, 3) := by decide +kernel
theorem dX2_anHour_44 : decode cX2_anHour 44 = .ok (.aload_n 0, 1) := by decide +kernel
theorem dX2_anHour_45 : decode cX2_anHour 45 = .ok (.iload_n 1, 1) := by decide +kernel
theorem dX2_anHour_46 : decode cX2_anHour 46 = .ok (.invokevirtual 102, 3) := by decide +kernel
theorem dX2_anHour_49 : decode cX2_anHour 49 = .ok (.iinc 1 1, 3) := by decide +kernel
theorem dX2_anHour_52 : decode cX2_anHour 52 = .ok (.goto (-16), 3) := by decide +kernel
theorem dX2_anHour_55 : decode cX2_anHour 55 = .ok (.aload_n 0, 1) := by decide +kernel
theorem dX2_anHour_56 : decode cX2_anHour 56 = .ok (.dup, 1) := by decide +kernel
theorem dX2_anHour_57 : decode cX2_anHour 57 = .ok (.getfield 59, 3) := by decide +kernel
theorem dX2_anHour_60 : decode cX2_anHour 60 = .ok (.iconst 1, 1) := by decide +kernel
theorem dX2_anHour_61 : decode cX2_anHour 61 = .ok (.iadd, 1) := by decide +kernel
theorem dX2_anHour_62 : decode cX2_anHour 62 = .ok (.putfield 59, 3) := by decide +kernel
theorem dX2_anHour_65 : decode cX2_anHour 65 = .ok (.return_, 1) := by decide +kernel
theorem dX2_letGo_0 : decode cX2_letGo 0 = .ok (.iconst (-1), 1) := by decide +kernel
theorem dX2_letGo_1 : decode cX2_letGo 1 = .ok (.istore_n 2, 1) := by decide +kernel
theorem dX2_letGo_2 : decode cX2_letGo 2 = .ok (.iconst (-1), 1) := by decide +kernel
theorem dX2_letGo_3 : decode cX2_letGo 3 = .ok (.istore_n 3, 1) := by decide +kernel
theorem dX2_letGo_4 : decode cX2_letGo 4 = .ok (.iconst 0, 1) := by decide +kernel
theorem dX2_letGo_5 : decode cX2_letGo 5 = .ok (.istore 4, 2) := by decide +kernel
theorem dX2_letGo_7 : decode cX2_letGo 7 = .ok (.iload 4, 2) := by decide +kernel
theorem dX2_letGo_9 : decode cX2_letGo 9 = .ok (.aload_n 0, 1) := by decide +kernel
theorem dX2_letGo_10 : decode cX2_letGo 10 = .ok (.getfield 53, 3) := by decide +kernel
theorem dX2_letGo_13 : decode cX2_letGo 13 = .ok (.if_icmp .ge 45, 3) := by decide +kernel
theorem dX2_letGo_16 : decode cX2_letGo 16 = .ok (.aload_n 0, 1) := by decide +kernel
theorem dX2_letGo_17 : decode cX2_letGo 17 = .ok (.getfield 34, 3) := by decide +kernel
theorem dX2_letGo_20 : decode cX2_letGo 20 = .ok (.iload 4, 2) := by decide +kernel
theorem dX2_letGo_22 : decode cX2_letGo 22 = .ok (.iaload, 1) := by decide +kernel
theorem dX2_letGo_23 : decode cX2_letGo 23 = .ok (.iload_n 1, 1) := by decide +kernel
theorem dX2_letGo_24 : decode cX2_letGo 24 = .ok (.if_icmp .ne 13, 3) := by decide +kernel
theorem dX2_letGo_27 : decode cX2_letGo 27 = .ok (.aload_n 0, 1) := by decide +kernel
theorem dX2_letGo_28 : decode cX2_letGo 28 = .ok (.iload_n 1, 1) := by decide +kernel
theorem dX2_letGo_29 : decode cX2_letGo 29 = .ok (.iload 4, 2) := by decide +kernel
theorem dX2_letGo_31 : decode cX2_letGo 31 = .ok (.invokevirtual 86, 3) := by decide +kernel
theorem dX2_letGo_34 : decode cX2_letGo 34 = .ok (.goto 4, 3) := by decide +kernel
theorem dX2_letGo_37 : decode cX2_letGo 37 = .ok (.iconst (-1), 1) := by decide +kernel
theorem dX2_letGo_38 : decode cX2_letGo 38 = .ok (.istore 5, 2) := by decide +kernel
theorem dX2_letGo_40 : decode cX2_letGo 40 = .ok (.iload 5, 2) := by decide +kernel
theorem dX2_letGo_42 : decode cX2_letGo 42 = .ok (.iload_n 3, 1) := by decide +kernel
theorem dX2_letGo_43 : decode cX2_letGo 43 = .ok (.if_icmp .le 9, 3) := by decide +kernel
theorem dX2_letGo_46 : decode cX2_letGo 46 = .ok (.iload 5, 2) := by decide +kernel
theorem dX2_letGo_48 : decode cX2_letGo 48 = .ok (.istore_n 3, 1) := by decide +kernel
theorem dX2_letGo_49 : decode cX2_letGo 49 = .ok (.iload 4, 2) := by decide +kernel
theorem dX2_letGo_51 : decode cX2_letGo 51 = .ok (.istore_n 2, 1) := by decide +kernel
theorem dX2_letGo_52 : decode cX2_letGo 52 = .ok (.iinc 4 1, 3) := by decide +kernel
theorem dX2_letGo_55 : decode cX2_letGo 55 = .ok (.goto (-48), 3) := by decide +kernel
theorem dX2_letGo_58 : decode cX2_letGo 58 = .ok (.aload_n 0, 1) := by decide +kernel
theorem dX2_letGo_59 : decode cX2_letGo 59 = .ok (.iload_n 2, 1) := by decide +kernel
theorem dX2_letGo_60 : decode cX2_letGo 60 = .ok (.invokevirtual 73, 3) := by decide +kernel
theorem dX2_letGo_63 : decode cX2_letGo 63 = .ok (.ifCond .eq 10, 3) := by decide +kernel
theorem dX2_letGo_66 : decode cX2_letGo 66 = .ok (.aload_n 0, 1) := by decide +kernel
theorem dX2_letGo_67 : decode cX2_letGo 67 = .ok (.getfield 34, 3) := by decide +kernel
theorem dX2_letGo_70 : decode cX2_letGo 70 = .ok (.iload_n 2, 1) := by decide +kernel
theorem dX2_letGo_71 : decode cX2_letGo 71 = .ok (.iconst (-1), 1) := by decide +kernel
theorem dX2_letGo_72 : decode cX2_letGo 72 = .ok (.iastore, 1) := by decide +kernel
theorem dX2_letGo_73 : decode cX2_letGo 73 = .ok (.return_, 1) := by decide +kernel
theorem dX2_graze_0 : decode cX2_graze 0 = .ok (.aload_n 0, 1) := by decide +kernel
theorem dX2_graze_1 : decode cX2_graze 1 = .ok (.getfield 37, 3) := by decide +kernel
theorem dX2_graze_4 : decode cX2_graze 4 = .ok (.iload_n 1, 1) := by decide +kernel
theorem dX2_graze_5 : decode cX2_graze 5 = .ok (.iaload, 1) := by decide +kernel
theorem dX2_graze_6 : decode cX2_graze 6 = .ok (.istore_n 2, 1) := by decide +kernel
theorem dX2_graze_7 : decode cX2_graze 7 = .ok (.iload_n 2, 1) := by decide +kernel
theorem dX2_graze_8 : decode cX2_graze 8 = .ok (.istore_n 3, 1) := by decide +kernel
theorem dX2_graze_9 : decode cX2_graze 9 = .ok (.aload_n 0, 1) := by decide +kernel
theorem dX2_graze_10 : decode cX2_graze 10 = .ok (.iload_n 2, 1) := by decide +kernel
theorem dX2_graze_11 : decode cX2_graze 11 = .ok (.invokevirtual 105, 3) := by decide +kernel
theorem dX2_graze_14 : decode cX2_graze 14 = .ok (.istore 4, 2) := by decide +kernel
theorem dX2_graze_16 : decode cX2_graze 16 = .ok (.iconst 0, 1) := by decide +kernel
theorem dX2_graze_17 : decode cX2_graze 17 = .ok (.istore 5, 2) := by decide +kernel
theorem dX2_graze_19 : decode cX2_graze 19 = .ok (.iload 5, 2) := by decide +kernel
theorem dX2_graze_21 : decode cX2_graze 21 = .ok (.aload_n 0, 1) := by decide +kernel
theorem dX2_graze_22 : decode cX2_graze 22 = .ok (.getfield 53, 3) := by decide +kernel
theorem dX2_graze_25 : decode cX2_graze 25 = .ok (.if_icmp .ge 67, 3) := by decide +kernel
theorem dX2_graze_28 : decode cX2_graze 28 = .ok (.aload_n 0, 1) := by decide +kernel
theorem dX2_graze_29 : decode cX2_graze 29 = .ok (.getfield 34, 3) := by decide +kernel
theorem dX2_graze_32 : decode cX2_graze 32 = .ok (.iload 5, 2) := by decide +kernel
theorem dX2_graze_34 : decode cX2_graze 34 = .ok (.iaload, 1) := by decide +kernel
theorem dX2_graze_35 : decode cX2_graze 35 = .ok (.iconst (-1), 1) := by decide +kernel
theorem dX2_graze_36 : decode cX2_graze 36 = .ok (.if_icmp .ne 13, 3) := by decide +kernel
theorem dX2_graze_39 : decode cX2_graze 39 = .ok (.aload_n 0, 1) := by decide +kernel
theorem dX2_graze_40 : decode cX2_graze 40 = .ok (.iload 5, 2) := by decide +kernel
theorem dX2_graze_42 : decode cX2_graze 42 = .ok (.iload_n 2, 1) := by decide +kernel
theorem dX2_graze_43 : decode cX2_graze 43 = .ok (.invokevirtual 108, 3) := by decide +kernel
theorem dX2_graze_46 : decode cX2_graze 46 = .ok (.goto 4, 3) := by decide +kernel
theorem dX2_graze_49 : decode cX2_graze 49 = .ok (.iconst (-1), 1) := by decide +kernel
theorem dX2_graze_50 : decode cX2_graze 50 = .ok (.istore 6, 2) := by decide +kernel
theorem dX2_graze_52 : decode cX2_graze 52 = .ok (.iload 6, 2) := by decide +kernel
theorem dX2_graze_54 : decode cX2_graze 54 = .ok (.invokestatic 89, 3) := by decide +kernel
theorem dX2_graze_57 : decode cX2_graze 57 = .ok (.ifCond .eq 12, 3) := by decide +kernel
theorem dX2_graze_60 : decode cX2_graze 60 = .ok (.aload_n 0, 1) := by decide +kernel
theorem dX2_graze_61 : decode cX2_graze 61 = .ok (.iload 6, 2) := by decide +kernel
theorem dX2_graze_63 : decode cX2_graze 63 = .ok (.invokevirtual 105, 3) := by decide +kernel
theorem dX2_graze_66 : decode cX2_graze 66 = .ok (.goto 4, 3) := by decide +kernel
theorem dX2_graze_69 : decode cX2_graze 69 = .ok (.iconst (-1), 1) := by decide +kernel
theorem dX2_graze_70 : decode cX2_graze 70 = .ok (.istore 7, 2) := by decide +kernel
theorem dX2_graze_72 : decode cX2_graze 72 = .ok (.iload 7, 2) := by decide +kernel
theorem dX2_graze_74 : decode cX2_graze 74 = .ok (.iload 4, 2) := by decide +kernel
theorem dX2_graze_76 : decode cX2_graze 76 = .ok (.if_icmp .le 10, 3) := by decide +kernel
theorem dX2_graze_79 : decode cX2_graze 79 = .ok (.iload 7, 2) := by decide +kernel
theorem dX2_graze_81 : decode cX2_graze 81 = .ok (.istore 4, 2) := by decide +kernel
theorem dX2_graze_83 : decode cX2_graze 83 = .ok (.iload 6, 2) := by decide +kernel
theorem dX2_graze_85 : decode cX2_graze 85 = .ok (.istore_n 3, 1) := by decide +kernel
theorem dX2_graze_86 : decode cX2_graze 86 = .ok (.iinc 5 1, 3) := by decide +kernel
theorem dX2_graze_89 : decode cX2_graze 89 = .ok (.goto (-70), 3) := by decide +kernel
theorem dX2_graze_92 : decode cX2_graze 92 = .ok (.iload_n 3, 1) := by decide +kernel
theorem dX2_graze_93 : decode cX2_graze 93 = .ok (.iload_n 2, 1) := by decide +kernel
theorem dX2_graze_94 : decode cX2_graze 94 = .ok (.if_icmp .eq 19, 3) := by decide +kernel
theorem dX2_graze_97 : decode cX2_graze 97 = .ok (.aload_n 0, 1) := by decide +kernel
theorem dX2_graze_98 : decode cX2_graze 98 = .ok (.aload_n 0, 1) := by decide +kernel
theorem dX2_graze_99 : decode cX2_graze 99 = .ok (.getfield 62, 3) := by decide +kernel
theorem dX2_graze_102 : decode cX2_graze 102 = .ok (.iconst 1, 1) := by decide +kernel
theorem dX2_graze_103 : decode cX2_graze 103 = .ok (.iadd, 1) := by decide +kernel
theorem dX2_graze_104 : decode cX2_graze 104 = .ok (.sipush 9999, 3) := by decide +kernel
theorem dX2_graze_107 : decode cX2_graze 107 = .ok (.invokestatic 111, 3) := by decide +kernel
theorem dX2_graze_110 : decode cX2_graze 110 = .ok (.putfield 62, 3) := by decide +kernel
theorem dX2_graze_113 : decode cX2_graze 113 = .ok (.aload_n 0, 1) := by decide +kernel
theorem dX2_graze_114 : decode cX2_graze 114 = .ok (.getfield 37, 3) := by decide +kernel
theorem dX2_graze_117 : decode cX2_graze 117 = .ok (.iload_n 1, 1) := by decide +kernel
theorem dX2_graze_118 : decode cX2_graze 118 = .ok (.iload_n 3, 1) := by decide +kernel
theorem dX2_graze_119 : decode cX2_graze 119 = .ok (.iastore, 1) := by decide +kernel
theorem dX2_graze_120 : decode cX2_graze 120 = .ok (.iload_n 3, 1) := by decide +kernel
theorem dX2_graze_121 : decode cX2_graze 121 = .ok (.invokestatic 89, 3) := by decide +kernel
theorem dX2_graze_124 : decode cX2_graze 124 = .ok (.ifCond .eq 21, 3) := by decide +kernel
theorem dX2_graze_127 : decode cX2_graze 127 = .ok (.aload_n 0, 1) := by decide +kernel
theorem dX2_graze_128 : decode cX2_graze 128 = .ok (.getfield 40, 3) := by decide +kernel
theorem dX2_graze_131 : decode cX2_graze 131 = .ok (.iload_n 3, 1) := by decide +kernel
theorem dX2_graze_132 : decode cX2_graze 132 = .ok (.aload_n 0, 1) := by decide +kernel
theorem dX2_graze_133 : decode cX2_graze 133 = .ok (.getfield 40, 3) := by decide +kernel
theorem dX2_graze_136 : decode cX2_graze 136 = .ok (.iload_n 3, 1) := by decide +kernel
theorem dX2_graze_137 : decode cX2_graze 137 = .ok (.iaload, 1) := by decide +kernel
theorem dX2_graze_138 : decode cX2_graze 138 = .ok (.iconst 1, 1) := by decide +kernel
theorem dX2_graze_139 : decode cX2_graze 139 = .ok (.isub, 1) := by decide +kernel
theorem dX2_graze_140 : decode cX2_graze 140 = .ok (.iconst 0, 1) := by decide +kernel
theorem dX2_graze_141 : decode cX2_graze 141 = .ok (.invokestatic 116, 3) := by decide +kernel
theorem dX2_graze_144 : decode cX2_graze 144 = .ok (.iastore, 1) := by decide +kernel
theorem dX2_graze_145 : decode cX2_graze 145 = .ok (.return_, 1) := by decide +kernel
theorem dX2_across_0 : decode cX2_across 0 = .ok (.aload_n 0, 1) := by decide +kernel
theorem dX2_across_1 : decode cX2_across 1 = .ok (.getfield 25, 3) := by decide +kernel
theorem dX2_across_4 : decode cX2_across 4 = .ok (.iload_n 1, 1) := by decide +kernel
theorem dX2_across_5 : decode cX2_across 5 = .ok (.iaload, 1) := by decide +kernel
theorem dX2_across_6 : decode cX2_across 6 = .ok (.iload_n 2, 1) := by decide +kernel
theorem dX2_across_7 : decode cX2_across 7 = .ok (.if_icmp .ne 10, 3) := by decide +kernel
theorem dX2_across_10 : decode cX2_across 10 = .ok (.aload_n 0, 1) := by decide +kernel
theorem dX2_across_11 : decode cX2_across 11 = .ok (.getfield 28, 3) := by decide +kernel
theorem dX2_across_14 : decode cX2_across 14 = .ok (.iload_n 1, 1) := by decide +kernel
theorem dX2_across_15 : decode cX2_across 15 = .ok (.iaload, 1) := by decide +kernel
theorem dX2_across_16 : decode cX2_across 16 = .ok (.ireturn, 1) := by decide +kernel
theorem dX2_across_17 : decode cX2_across 17 = .ok (.aload_n 0, 1) := by decide +kernel
theorem dX2_across_18 : decode cX2_across 18 = .ok (.getfield 28, 3) := by decide +kernel
theorem dX2_across_21 : decode cX2_across 21 = .ok (.iload_n 1, 1) := by decide +kernel
theorem dX2_across_22 : decode cX2_across 22 = .ok (.iaload, 1) := by decide +kernel
theorem dX2_across_23 : decode cX2_across 23 = .ok (.iload_n 2, 1) := by decide +kernel
theorem dX2_across_24 : decode cX2_across 24 = .ok (.if_icmp .ne 12, 3) := by decide +kernel
theorem dX2_across_27 : decode cX2_across 27 = .ok (.aload_n 0, 1) := by decide +kernel
theorem dX2_across_28 : decode cX2_across 28 = .ok (.getfield 25, 3) := by decide +kernel
theorem dX2_across_31 : decode cX2_across 31 = .ok (.iload_n 1, 1) := by decide +kernel
theorem dX2_across_32 : decode cX2_across 32 = .ok (.iaload, 1) := by decide +kernel
theorem dX2_across_33 : decode cX2_across 33 = .ok (.goto 4, 3) := by decide +kernel
theorem dX2_across_36 : decode cX2_across 36 = .ok (.iconst (-1), 1) := by decide +kernel
theorem dX2_across_37 : decode cX2_across 37 = .ok (.ireturn, 1) := by decide +kernel
theorem dX2_further_0 : decode cX2_further 0 = .ok (.iload_n 1, 1) := by decide +kernel
theorem dX2_further_1 : decode cX2_further 1 = .ok (.istore_n 3, 1) := by decide +kernel
theorem dX2_further_2 : decode cX2_further 2 = .ok (.iconst 0, 1) := by decide +kernel
theorem dX2_further_3 : decode cX2_further 3 = .ok (.istore 4, 2) := by decide +kernel
theorem dX2_further_5 : decode cX2_further 5 = .ok (.iload 4, 2) := by decide +kernel
theorem dX2_further_7 : decode cX2_further 7 = .ok (.aload_n 0, 1) := by decide +kernel
theorem dX2_further_8 : decode cX2_further 8 = .ok (.getfield 53, 3) := by decide +kernel
theorem dX2_further_11 : decode cX2_further 11 = .ok (.if_icmp .ge 51, 3) := by decide +kernel
theorem dX2_further_14 : decode cX2_further 14 = .ok (.iconst 1, 1) := by decide +kernel
theorem dX2_further_15 : decode cX2_further 15 = .ok (.aload_n 0, 1) := by decide +kernel
theorem dX2_further_16 : decode cX2_further 16 = .ok (.getfield 25, 3) := by decide +kernel
theorem dX2_further_19 : decode cX2_further 19 = .ok (.iload 4, 2) := by decide +kernel
theorem dX2_further_21 : decode cX2_further 21 = .ok (.iaload, 1) := by decide +kernel
theorem dX2_further_22 : decode cX2_further 22 = .ok (.ishl, 1) := by decide +kernel
theorem dX2_further_23 : decode cX2_further 23 = .ok (.iconst 1, 1) := by decide +kernel
theorem dX2_further_24 : decode cX2_further 24 = .ok (.aload_n 0, 1) := by decide +kernel
theorem dX2_further_25 : decode cX2_further 25 = .ok (.getfield 28, 3) := by decide +kernel
theorem dX2_further_28 : decode cX2_further 28 = .ok (.iload 4, 2) := by decide +kernel
theorem dX2_further_30 : decode cX2_further 30 = .ok (.iaload, 1) := by decide +kernel
theorem dX2_further_31 : decode cX2_further 31 = .ok (.ishl, 1) := by decide +kernel
theorem dX2_further_32 : decode cX2_further 32 = .ok (.ior, 1) := by decide +kernel
theorem dX2_further_33 : decode cX2_further 33 = .ok (.istore 5, 2) := by decide +kernel
theorem dX2_further_35 : decode cX2_further 35 = .ok (.iload_n 2, 1) := by decide +kernel
theorem dX2_further_36 : decode cX2_further 36 = .ok (.iconst 1, 1) := by decide +kernel
theorem dX2_further_37 : decode cX2_further 37 = .ok (.iload 4, 2) := by decide +kernel
theorem dX2_further_39 : decode cX2_further 39 = .ok (.ishl, 1) := by decide +kernel
theorem dX2_further_40 : decode cX2_further 40 = .ok (.iand, 1) := by decide +kernel
theorem dX2_further_41 : decode cX2_further 41 = .ok (.ifCond .eq 15, 3) := by decide +kernel
theorem dX2_further_44 : decode cX2_further 44 = .ok (.iload_n 1, 1) := by decide +kernel
theorem dX2_further_45 : decode cX2_further 45 = .ok (.iload 5, 2) := by decide +kernel
theorem dX2_further_47 : decode cX2_further 47 = .ok (.iand, 1) := by decide +kernel
theorem dX2_further_48 : decode cX2_further 48 = .ok (.ifCond .eq 8, 3) := by decide +kernel
theorem dX2_further_51 : decode cX2_further 51 = .ok (.iload_n 3, 1) := by decide +kernel
theorem dX2_further_52 : decode cX2_further 52 = .ok (.iload 5, 2) := by decide +kernel
theorem dX2_further_54 : decode cX2_further 54 = .ok (.ior, 1) := by decide +kernel
theorem dX2_further_55 : decode cX2_further 55 = .ok (.istore_n 3, 1) := by decide +kernel
theorem dX2_further_56 : decode cX2_further 56 = .ok (.iinc 4 1, 3) := by decide +kernel
theorem dX2_further_59 : decode cX2_further 59 = .ok (.goto (-54), 3) := by decide +kernel
theorem dX2_further_62 : decode cX2_further 62 = .ok (.iload_n 3, 1) := by decide +kernel
theorem dX2_further_63 : decode cX2_further 63 = .ok (.ireturn, 1) := by decide +kernel
theorem dX2_reached_0 : decode cX2_reached 0 = .ok (.iconst 1, 1) := by decide +kernel
theorem dX2_reached_1 : decode cX2_reached 1 = .ok (.iload_n 1, 1) := by decide +kernel
theorem dX2_reached_2 : decode cX2_reached 2 = .ok (.ishl, 1) := by decide +kernel
theorem dX2_reached_3 : decode cX2_reached 3 = .ok (.istore_n 3, 1) := by decide +kernel
theorem dX2_reached_4 : decode cX2_reached 4 = .ok (.iconst 1, 1) := by decide +kernel
theorem dX2_reached_5 : decode cX2_reached 5 = .ok (.istore 4, 2) := by decide +kernel
theorem dX2_reached_7 : decode cX2_reached 7 = .ok (.iload 4, 2) := by decide +kernel
theorem dX2_reached_9 : decode cX2_reached 9 = .ok (.bipush 7, 2) := by decide +kernel
theorem dX2_reached_11 : decode cX2_reached 11 = .ok (.if_icmp .ge 28, 3) := by decide +kernel
theorem dX2_reached_14 : decode cX2_reached 14 = .ok (.aload_n 0, 1) := by decide +kernel
theorem dX2_reached_15 : decode cX2_reached 15 = .ok (.iload_n 3, 1) := by decide +kernel
theorem dX2_reached_16 : decode cX2_reached 16 = .ok (.iload_n 2, 1) := by decide +kernel
theorem dX2_reached_17 : decode cX2_reached 17 = .ok (.invokevirtual 119, 3) := by decide +kernel
theorem dX2_reached_20 : decode cX2_reached 20 = .ok (.istore 5, 2) := by decide +kernel
theorem dX2_reached_22 : decode cX2_reached 22 = .ok (.iload 5, 2) := by decide +kernel
theorem dX2_reached_24 : decode cX2_reached 24 = .ok (.iload_n 3, 1) := by decide +kernel
theorem dX2_reached_25 : decode cX2_reached 25 = .ok (.if_icmp .ne 5, 3) := by decide +kernel
theorem dX2_reached_28 : decode cX2_reached 28 = .ok (.iload_n 3, 1) := by decide +kernel
theorem dX2_reached_29 : decode cX2_reached 29 = .ok (.ireturn, 1) := by decide +kernel
theorem dX2_reached_30 : decode cX2_reached 30 = .ok (.iload 5, 2) := by decide +kernel
theorem dX2_reached_32 : decode cX2_reached 32 = .ok (.istore_n 3, 1) := by decide +kernel
theorem dX2_reached_33 : decode cX2_reached 33 = .ok (.iinc 4 1, 3) := by decide +kernel
theorem dX2_reached_36 : decode cX2_reached 36 = .ok (.goto (-29), 3) := by decide +kernel
theorem dX2_reached_39 : decode cX2_reached 39 = .ok (.iload_n 3, 1) := by decide +kernel
theorem dX2_reached_40 : decode cX2_reached 40 = .ok (.ireturn, 1) := by decide +kernel
theorem dX2_steps_0 : decode cX2_steps 0 = .ok (.iconst 1, 1) := by decide +kernel
theorem dX2_steps_1 : decode cX2_steps 1 = .ok (.iload_n 1, 1) := by decide +kernel
theorem dX2_steps_2 : decode cX2_steps 2 = .ok (.ishl, 1) := by decide +kernel
theorem dX2_steps_3 : decode cX2_steps 3 = .ok (.istore_n 3, 1) := by decide +kernel
theorem dX2_steps_4 : decode cX2_steps 4 = .ok (.iconst 0, 1) := by decide +kernel
theorem dX2_steps_5 : decode cX2_steps 5 = .ok (.istore 4, 2) := by decide +kernel
theorem dX2_steps_7 : decode cX2_steps 7 = .ok (.iload 4, 2) := by decide +kernel
theorem dX2_steps_9 : decode cX2_steps 9 = .ok (.bipush 7, 2) := by decide +kernel
theorem dX2_steps_11 : decode cX2_steps 11 = .ok (.if_icmp .ge 27, 3) := by decide +kernel
theorem dX2_steps_14 : decode cX2_steps 14 = .ok (.iload_n 3, 1) := by decide +kernel
theorem dX2_steps_15 : decode cX2_steps 15 = .ok (.iconst 1, 1) := by decide +kernel
theorem dX2_steps_16 : decode cX2_steps 16 = .ok (.iload_n 2, 1) := by decide +kernel
theorem dX2_steps_17 : decode cX2_steps 17 = .ok (.ishl, 1) := by decide +kernel
theorem dX2_steps_18 : decode cX2_steps 18 = .ok (.iand, 1) := by decide +kernel
theorem dX2_steps_19 : decode cX2_steps 19 = .ok (.ifCond .eq 6, 3) := by decide +kernel
theorem dX2_steps_22 : decode cX2_steps 22 = .ok (.iload 4, 2) := by decide +kernel
theorem dX2_steps_24 : decode cX2_steps 24 = .ok (.ireturn, 1) := by decide +kernel
theorem dX2_steps_25 : decode cX2_steps 25 = .ok (.aload_n 0, 1) := by decide +kernel
theorem dX2_steps_26 : decode cX2_steps 26 = .ok (.iload_n 3, 1) := by decide +kernel
theorem dX2_steps_27 : decode cX2_steps 27 = .ok (.iconst (-1), 1) := by decide +kernel
theorem dX2_steps_28 : decode cX2_steps 28 = .ok (.invokevirtual 119, 3) := by decide +kernel
theorem dX2_steps_31 : decode cX2_steps 31 = .ok (.istore_n 3, 1) := by decide +kernel
theorem dX2_steps_32 : decode cX2_steps 32 = .ok (.iinc 4 1, 3) := by decide +kernel
theorem dX2_steps_35 : decode cX2_steps 35 = .ok (.goto (-28), 3) := by decide +kernel
theorem dX2_steps_38 : decode cX2_steps 38 = .ok (.iconst (-1), 1) := by decide +kernel
theorem dX2_steps_39 : decode cX2_steps 39 = .ok (.ireturn, 1) := by decide +kernel
theorem dX2_leastCut_0 : decode cX2_leastCut 0 = .ok (.iconst 1, 1) := by decide +kernel
theorem dX2_leastCut_1 : decode cX2_leastCut 1 = .ok (.aload_n 0, 1) := by decide +kernel
theorem dX2_leastCut_2 : decode cX2_leastCut 2 = .ok (.getfield 53, 3) := by decide +kernel
theorem dX2_leastCut_5 : decode cX2_leastCut 5 = .ok (.ishl, 1) := by decide +kernel
theorem dX2_leastCut_6 : decode cX2_leastCut 6 = .ok (.iconst 1, 1) := by decide +kernel
theorem dX2_leastCut_7 : decode cX2_leastCut 7 = .ok (.isub, 1) := by decide +kernel
theorem dX2_leastCut_8 : decode cX2_leastCut 8 = .ok (.istore_n 3, 1) := by decide +kernel
theorem dX2_leastCut_9 : decode cX2_leastCut 9 = .ok (.iload_n 3, 1) := by decide +kernel
theorem dX2_leastCut_10 : decode cX2_leastCut 10 = .ok (.istore 4, 2) := by decide +kernel
theorem dX2_leastCut_12 : decode cX2_leastCut 12 = .ok (.iconst 0, 1) := by decide +kernel
theorem dX2_leastCut_13 : decode cX2_leastCut 13 = .ok (.istore 5, 2) := by decide +kernel
theorem dX2_leastCut_15 : decode cX2_leastCut 15 = .ok (.iload 5, 2) := by decide +kernel
theorem dX2_leastCut_17 : decode cX2_leastCut 17 = .ok (.iload_n 3, 1) := by decide +kernel
theorem dX2_leastCut_18 : decode cX2_leastCut 18 = .ok (.if_icmp .gt 56, 3) := by decide +kernel
theorem dX2_leastCut_21 : decode cX2_leastCut 21 = .ok (.iload 5, 2) := by decide +kernel
theorem dX2_leastCut_23 : decode cX2_leastCut 23 = .ok (.invokestatic 122, 3) := by decide +kernel
theorem dX2_leastCut_26 : decode cX2_leastCut 26 = .ok (.iload 4, 2) := by decide +kernel
theorem dX2_leastCut_28 : decode cX2_leastCut 28 = .ok (.invokestatic 122, 3) := by decide +kernel
theorem dX2_leastCut_31 : decode cX2_leastCut 31 = .ok (.if_icmp .ge 7, 3) := by decide +kernel
theorem dX2_leastCut_34 : decode cX2_leastCut 34 = .ok (.iconst 1, 1) := by decide +kernel
theorem dX2_leastCut_35 : decode cX2_leastCut 35 = .ok (.goto 4, 3) := by decide +kernel
theorem dX2_leastCut_38 : decode cX2_leastCut 38 = .ok (.iconst 0, 1) := by decide +kernel
theorem dX2_leastCut_39 : decode cX2_leastCut 39 = .ok (.istore 6, 2) := by decide +kernel
theorem dX2_leastCut_41 : decode cX2_leastCut 41 = .ok (.iload 6, 2) := by decide +kernel
theorem dX2_leastCut_43 : decode cX2_leastCut 43 = .ok (.ifCond .eq 25, 3) := by decide +kernel
theorem dX2_leastCut_46 : decode cX2_leastCut 46 = .ok (.aload_n 0, 1) := by decide +kernel
theorem dX2_leastCut_47 : decode cX2_leastCut 47 = .ok (.iload_n 1, 1) := by decide +kernel
theorem dX2_leastCut_48 : decode cX2_leastCut 48 = .ok (.iload_n 3, 1) := by decide +kernel
theorem dX2_leastCut_49 : decode cX2_leastCut 49 = .ok (.iload 5, 2) := by decide +kernel
theorem dX2_leastCut_51 : decode cX2_leastCut 51 = .ok (.iconst (-1), 1) := by decide +kernel
theorem dX2_leastCut_52 : decode cX2_leastCut 52 = .ok (.ixor, 1) := by decide +kernel
theorem dX2_leastCut_53 : decode cX2_leastCut 53 = .ok (.iand, 1) := by decide +kernel
theorem dX2_leastCut_54 : decode cX2_leastCut 54 = .ok (.invokevirtual 127, 3) := by decide +kernel
theorem dX2_leastCut_57 : decode cX2_leastCut 57 = .ok (.iconst 1, 1) := by decide +kernel
theorem dX2_leastCut_58 : decode cX2_leastCut 58 = .ok (.iload_n 2, 1) := by decide +kernel
theorem dX2_leastCut_59 : decode cX2_leastCut 59 = .ok (.ishl, 1) := by decide +kernel
theorem dX2_leastCut_60 : decode cX2_leastCut 60 = .ok (.iand, 1) := by decide +kernel
theorem dX2_leastCut_61 : decode cX2_leastCut 61 = .ok (.ifCond .ne 7, 3) := by decide +kernel
theorem dX2_leastCut_64 : decode cX2_leastCut 64 = .ok (.iload 5, 2) := by decide +kernel
theorem dX2_leastCut_66 : decode cX2_leastCut 66 = .ok (.istore 4, 2) := by decide +kernel
theorem dX2_leastCut_68 : decode cX2_leastCut 68 = .ok (.iinc 5 1, 3) := by decide +kernel
theorem dX2_leastCut_71 : decode cX2_leastCut 71 = .ok (.goto (-56), 3) := by decide +kernel
theorem dX2_leastCut_74 : decode cX2_leastCut 74 = .ok (.iload 4, 2) := by decide +kernel
theorem dX2_leastCut_76 : decode cX2_leastCut 76 = .ok (.ireturn, 1) := by decide +kernel
theorem dX2_gatesThatMatter_0 : decode cX2_gatesThatMatter 0 = .ok (.aload_n 0, 1) := by decide +kernel
theorem dX2_gatesThatMatter_1 : decode cX2_gatesThatMatter 1 = .ok (.invokevirtual 130, 3) := by decide +kernel
theorem dX2_gatesThatMatter_4 : decode cX2_gatesThatMatter 4 = .ok (.istore_n 2, 1) := by decide +kernel
theorem dX2_gatesThatMatter_5 : decode cX2_gatesThatMatter 5 = .ok (.aload_n 0, 1) := by decide +kernel
theorem dX2_gatesThatMatter_6 : decode cX2_gatesThatMatter 6 = .ok (.iload_n 1, 1) := by decide +kernel
theorem dX2_gatesThatMatter_7 : decode cX2_gatesThatMatter 7 = .ok (.iload_n 2, 1) := by decide +kernel
theorem dX2_gatesThatMatter_8 : decode cX2_gatesThatMatter 8 = .ok (.invokevirtual 127, 3) := by decide +kernel
theorem dX2_gatesThatMatter_11 : decode cX2_gatesThatMatter 11 = .ok (.istore_n 3, 1) := by decide +kernel
theorem dX2_gatesThatMatter_12 : decode cX2_gatesThatMatter 12 = .ok (.iconst 0, 1) := by decide +kernel
theorem dX2_gatesThatMatter_13 : decode cX2_gatesThatMatter 13 = .ok (.istore 4, 2) := by decide +kernel
theorem dX2_gatesThatMatter_15 : decode cX2_gatesThatMatter 15 = .ok (.iconst 0, 1) := by decide +kernel
theorem dX2_gatesThatMatter_16 : decode cX2_gatesThatMatter 16 = .ok (.istore 5, 2) := by decide +kernel
theorem dX2_gatesThatMatter_18 : decode cX2_gatesThatMatter 18 = .ok (.iload 5, 2) := by decide +kernel
theorem dX2_gatesThatMatter_20 : decode cX2_gatesThatMatter 20 = .ok (.aload_n 0, 1) := by decide +kernel
theorem dX2_gatesThatMatter_21 : decode cX2_gatesThatMatter 21 = .ok (.getfield 53, 3) := by decide +kernel
theorem dX2_gatesThatMatter_24 : decode cX2_gatesThatMatter 24 = .ok (.if_icmp .ge 27, 3) := by decide +kernel
theorem dX2_gatesThatMatter_27 : decode cX2_gatesThatMatter 27 = .ok (.aload_n 0, 1) := by decide +kernel
theorem dX2_gatesThatMatter_28 : decode cX2_gatesThatMatter 28 = .ok (.iload_n 1, 1) := by decide +kernel
theorem dX2_gatesThatMatter_29 : decode cX2_gatesThatMatter 29 = .ok (.iload_n 2, 1) := by decide +kernel
theorem dX2_gatesThatMatter_30 : decode cX2_gatesThatMatter 30 = .ok (.iconst 1, 1) := by decide +kernel
theorem dX2_gatesThatMatter_31 : decode cX2_gatesThatMatter 31 = .ok (.iload 5, 2) := by decide +kernel
theorem dX2_gatesThatMatter_33 : decode cX2_gatesThatMatter 33 = .ok (.ishl, 1) := by decide +kernel
theorem dX2_gatesThatMatter_34 : decode cX2_gatesThatMatter 34 = .ok (.ior, 1) := by decide +kernel
theorem dX2_gatesThatMatter_35 : decode cX2_gatesThatMatter 35 = .ok (.invokevirtual 127, 3) := by decide +kernel
theorem dX2_gatesThatMatter_38 : decode cX2_gatesThatMatter 38 = .ok (.iload_n 3, 1) := by decide +kernel
theorem dX2_gatesThatMatter_39 : decode cX2_gatesThatMatter 39 = .ok (.if_icmp .eq 6, 3) := by decide +kernel
theorem dX2_gatesThatMatter_42 : decode cX2_gatesThatMatter 42 = .ok (.iinc 4 1, 3) := by decide +kernel
theorem dX2_gatesThatMatter_45 : decode cX2_gatesThatMatter 45 = .ok (.iinc 5 1, 3) := by decide +kernel
theorem dX2_gatesThatMatter_48 : decode cX2_gatesThatMatter 48 = .ok (.goto (-30), 3) := by decide +kernel
theorem dX2_gatesThatMatter_51 : decode cX2_gatesThatMatter 51 = .ok (.iload 4, 2) := by decide +kernel
theorem dX2_gatesThatMatter_53 : decode cX2_gatesThatMatter 53 = .ok (.ireturn, 1) := by decide +kernel
theorem dX3_init_0 : decode cX3_init 0 = .ok (.aload_n 0, 1) := by decide +kernel
theorem dX3_init_1 : decode cX3_init 1 = .ok (.invokespecial 3, 3) := by decide +kernel
theorem dX3_init_4 : decode cX3_init 4 = .ok (.aload_n 0, 1) := by decide +kernel
theorem dX3_init_5 : decode cX3_init 5 = .ok (.sipush 512, 3) := by decide +kernel
theorem dX3_init_8 : decode cX3_init 8 = .ok (.newarray .int, 2) := by decide +kernel
theorem dX3_init_10 : decode cX3_init 10 = .ok (.putfield 9, 3) := by decide +kernel
theorem dX3_init_13 : decode cX3_init 13 = .ok (.aload_n 0, 1) := by decide +kernel
theorem dX3_init_14 : decode cX3_init 14 = .ok (.sipush 512, 3) := by decide +kernel
theorem dX3_init_17 : decode cX3_init 17 = .ok (.newarray .int, 2) := by decide +kernel
theorem dX3_init_19 : decode cX3_init 19 = .ok (.putfield 15, 3) := by decide +kernel
theorem dX3_init_22 : decode cX3_init 22 = .ok (.return_, 1) := by decide +kernel
theorem dX3_fewestFor_0 : decode cX3_fewestFor 0 = .ok (.aload_n 1, 1) := by decide +kernel
theorem dX3_fewestFor_1 : decode cX3_fewestFor 1 = .ok (.getfield 18, 3) := by decide +kernel
theorem dX3_fewestFor_4 : decode cX3_fewestFor 4 = .ok (.ifCond .lt 12, 3) := by decide +kernel
theorem dX3_fewestFor_7 : decode cX3_fewestFor 7 = .ok (.aload_n 1, 1) := by decide +kernel
theorem dX3_fewestFor_8 : decode cX3_fewestFor 8 = .ok (.getfield 18, 3) := by decide +kernel
theorem dX3_fewestFor_11 : decode cX3_fewestFor 11 = .ok (.bipush 9, 2) := by decide +kernel
theorem dX3_fewestFor_13 : decode cX3_fewestFor 13 = .ok (.if_icmp .le 5, 3) := by decide +kernel
theorem dX3_fewestFor_16 : decode cX3_fewestFor 16 = .ok (.iconst (-1), 1) := by decide +kernel
theorem dX3_fewestFor_17 : decode cX3_fewestFor 17 = .ok (.ireturn, 1) := by decide +kernel
theorem dX3_fewestFor_18 : decode cX3_fewestFor 18 = .ok (.iconst 1, 1) := by decide +kernel
theorem dX3_fewestFor_19 : decode cX3_fewestFor 19 = .ok (.aload_n 1, 1) := by decide +kernel
theorem dX3_fewestFor_20 : decode cX3_fewestFor 20 = .ok (.getfield 18, 3) := by decide +kernel
theorem dX3_fewestFor_23 : decode cX3_fewestFor 23 = .ok (.ishl, 1) := by decide +kernel
theorem dX3_fewestFor_24 : decode cX3_fewestFor 24 = .ok (.istore_n 2, 1) := by decide +kernel
theorem dX3_fewestFor_25 : decode cX3_fewestFor 25 = .ok (.aload_n 0, 1) := by decide +kernel
theorem dX3_fewestFor_26 : decode cX3_fewestFor 26 = .ok (.getfield 15, 3) := by decide +kernel
theorem dX3_fewestFor_29 : decode cX3_fewestFor 29 = .ok (.iconst 0, 1) := by decide +kernel
theorem dX3_fewestFor_30 : decode cX3_fewestFor 30 = .ok (.iconst 0, 1) := by decide +kernel
theorem dX3_fewestFor_31 : decode cX3_fewestFor 31 = .ok (.iastore, 1) := by decide +kernel
theorem dX3_fewestFor_32 : decode cX3_fewestFor 32 = .ok (.iconst 1, 1) := by decide +kernel
theorem dX3_fewestFor_33 : decode cX3_fewestFor 33 = .ok (.istore_n 3, 1) := by decide +kernel
theorem dX3_fewestFor_34 : decode cX3_fewestFor 34 = .ok (.iload_n 3, 1) := by decide +kernel
theorem dX3_fewestFor_35 : decode cX3_fewestFor 35 = .ok (.iload_n 2, 1) := by decide +kernel
theorem dX3_fewestFor_36 : decode cX3_fewestFor 36 = .ok (.if_icmp .ge 17, 3) := by decide +kernel
theorem dX3_fewestFor_39 : decode cX3_fewestFor 39 = .ok (.aload_n 0, 1) := by decide +kernel
theorem dX3_fewestFor_40 : decode cX3_fewestFor 40 = .ok (.getfield 15, 3) := by decide +kernel
theorem dX3_fewestFor_43 : decode cX3_fewestFor 43 = .ok (.iload_n 3, 1) := by decide +kernel
theorem dX3_fewestFor_44 : decode cX3_fewestFor 44 = .ok (.bipush 7, 2) := by decide +kernel
theorem dX3_fewestFor_46 : decode cX3_fewestFor 46 = .ok (.iastore, 1) := by decide +kernel
theorem dX3_fewestFor_47 : decode cX3_fewestFor 47 = .ok (.iinc 3 1, 3) := by decide +kernel
theorem dX3_fewestFor_50 : decode cX3_fewestFor 50 = .ok (.goto (-16), 3) := by decide +kernel
theorem dX3_fewestFor_53 : decode cX3_fewestFor 53 = .ok (.iconst 0, 1) := by decide +kernel
theorem dX3_fewestFor_54 : decode cX3_fewestFor 54 = .ok (.istore_n 3, 1) := by decide +kernel
theorem dX3_fewestFor_55 : decode cX3_fewestFor 55 = .ok (.iload_n 3, 1) := by decide +kernel
theorem dX3_fewestFor_56 : decode cX3_fewestFor 56 = .ok (.aload_n 1, 1) := by decide +kernel
theorem dX3_fewestFor_57 : decode cX3_fewestFor 57 = .ok (.getfield 24, 3) := by decide +kernel
theorem dX3_fewestFor_60 : decode cX3_fewestFor 60 = .ok (.if_icmp .ge 26, 3) := by decide +kernel
theorem dX3_fewestFor_63 : decode cX3_fewestFor 63 = .ok (.aload_n 0, 1) := by decide +kernel
theorem dX3_fewestFor_64 : decode cX3_fewestFor 64 = .ok (.aload_n 1, 1) := by decide +kernel
theorem dX3_fewestFor_65 : decode cX3_fewestFor 65 = .ok (.iload_n 3, 1) := by decide +kernel
theorem dX3_fewestFor_66 : decode cX3_fewestFor 66 = .ok (.iload_n 2, 1) := by decide +kernel
theorem dX3_fewestFor_67 : decode cX3_fewestFor 67 = .ok (.invokevirtual 27, 3) := by decide +kernel
theorem dX3_fewestFor_70 : decode cX3_fewestFor 70 = .ok (.aload_n 0, 1) := by decide +kernel
theorem dX3_fewestFor_71 : decode cX3_fewestFor 71 = .ok (.aload_n 1, 1) := by decide +kernel
theorem dX3_fewestFor_72 : decode cX3_fewestFor 72 = .ok (.iload_n 3, 1) := by decide +kernel
theorem dX3_fewestFor_73 : decode cX3_fewestFor 73 = .ok (.invokevirtual 31, 3) := by decide +kernel
theorem dX3_fewestFor_76 : decode cX3_fewestFor 76 = .ok (.iload_n 2, 1) := by decide +kernel
theorem dX3_fewestFor_77 : decode cX3_fewestFor 77 = .ok (.invokevirtual 35, 3) := by decide +kernel
theorem dX3_fewestFor_80 : decode cX3_fewestFor 80 = .ok (.iinc 3 1, 3) := by decide +kernel
theorem dX3_fewestFor_83 : decode cX3_fewestFor 83 = .ok (.goto (-28), 3) := by decide +kernel
theorem dX3_fewestFor_86 : decode cX3_fewestFor 86 = .ok (.aload_n 0, 1) := by decide +kernel
theorem dX3_fewestFor_87 : decode cX3_fewestFor 87 = .ok (.getfield 15, 3) := by decide +kernel
theorem dX3_fewestFor_90 : decode cX3_fewestFor 90 = .ok (.iload_n 2, 1) := by decide +kernel
theorem dX3_fewestFor_91 : decode cX3_fewestFor 91 = .ok (.iconst 1, 1) := by decide +kernel
theorem dX3_fewestFor_92 : decode cX3_fewestFor 92 = .ok (.isub, 1) := by decide +kernel
theorem dX3_fewestFor_93 : decode cX3_fewestFor 93 = .ok (.iaload, 1) := by decide +kernel
theorem dX3_fewestFor_94 : decode cX3_fewestFor 94 = .ok (.istore_n 3, 1) := by decide +kernel
theorem dX3_fewestFor_95 : decode cX3_fewestFor 95 = .ok (.iload_n 3, 1) := by decide +kernel
theorem dX3_fewestFor_96 : decode cX3_fewestFor 96 = .ok (.bipush 7, 2) := by decide +kernel
theorem dX3_fewestFor_98 : decode cX3_fewestFor 98 = .ok (.if_icmp .ge 7, 3) := by decide +kernel
theorem dX3_fewestFor_101 : decode cX3_fewestFor 101 = .ok (.iload_n 3, 1) := by decide +kernel
theorem dX3_fewestFor_102 : decode cX3_fewestFor 102 = .ok (.goto 4, 3) := by decide +kernel
theorem dX3_fewestFor_105 : decode cX3_fewestFor 105 = .ok (.iconst (-1), 1) := by decide +kernel
theorem dX3_fewestFor_106 : decode cX3_fewestFor 106 = .ok (.ireturn, 1) := by decide +kernel
theorem dX3_weighSets_0 : decode cX3_weighSets 0 = .ok (.aload_n 0, 1) := by decide +kernel
theorem dX3_weighSets_1 : decode cX3_weighSets 1 = .ok (.getfield 9, 3) := by decide +kernel
theorem dX3_weighSets_4 : decode cX3_weighSets 4 = .ok (.iconst 0, 1) := by decide +kernel
theorem dX3_weighSets_5 : decode cX3_weighSets 5 = .ok (.iconst 0, 1) := by decide +kernel
theorem dX3_weighSets_6 : decode cX3_weighSets 6 = .ok (.iastore, 1) := by decide +kernel
theorem dX3_weighSets_7 : decode cX3_weighSets 7 = .ok (.iconst 0, 1) := by decide +kernel
theorem dX3_weighSets_8 : decode cX3_weighSets 8 = .ok (.istore 4, 2) := by decide +kernel
theorem dX3_weighSets_10 : decode cX3_weighSets 10 = .ok (.iload 4, 2) := by decide +kernel
theorem dX3_weighSets_12 : decode cX3_weighSets 12 = .ok (.aload_n 1, 1) := by decide +kernel
theorem dX3_weighSets_13 : decode cX3_weighSets 13 = .ok (.getfield 18, 3) := by decide +kernel
theorem dX3_weighSets_16 : decode cX3_weighSets 16 = .ok (.if_icmp .ge 69, 3) := by decide +kernel
theorem dX3_weighSets_19 : decode cX3_weighSets 19 = .ok (.aload_n 1, 1) := by decide +kernel
theorem dX3_weighSets_20 : decode cX3_weighSets 20 = .ok (.iload_n 2, 1) := by decide +kernel
theorem dX3_weighSets_21 : decode cX3_weighSets 21 = .ok (.iload 4, 2) := by decide +kernel
theorem dX3_weighSets_23 : decode cX3_weighSets 23 = .ok (.invokevirtual 39, 3) := by decide +kernel
theorem dX3_weighSets_26 : decode cX3_weighSets 26 = .ok (.istore 5, 2) := by decide +kernel
theorem dX3_weighSets_28 : decode cX3_weighSets 28 = .ok (.iconst 1, 1) := by decide +kernel
theorem dX3_weighSets_29 : decode cX3_weighSets 29 = .ok (.iload 4, 2) := by decide +kernel
theorem dX3_weighSets_31 : decode cX3_weighSets 31 = .ok (.ishl, 1) := by decide +kernel
theorem dX3_weighSets_32 : decode cX3_weighSets 32 = .ok (.istore 6, 2) := by decide +kernel
theorem dX3_weighSets_34 : decode cX3_weighSets 34 = .ok (.iconst 0, 1) := by decide +kernel
theorem dX3_weighSets_35 : decode cX3_weighSets 35 = .ok (.istore 7, 2) := by decide +kernel
theorem dX3_weighSets_37 : decode cX3_weighSets 37 = .ok (.iload 7, 2) := by decide +kernel
theorem dX3_weighSets_39 : decode cX3_weighSets 39 = .ok (.iload 6, 2) := by decide +kernel
theorem dX3_weighSets_41 : decode cX3_weighSets 41 = .ok (.if_icmp .ge 38, 3) := by decide +kernel
theorem dX3_weighSets_44 : decode cX3_weighSets 44 = .ok (.iload 6, 2) := by decide +kernel
theorem dX3_weighSets_46 : decode cX3_weighSets 46 = .ok (.iload 7, 2) := by decide +kernel
theorem dX3_weighSets_48 : decode cX3_weighSets 48 = .ok (.ior, 1) := by decide +kernel
theorem dX3_weighSets_49 : decode cX3_weighSets 49 = .ok (.iload_n 3, 1) := by decide +kernel
theorem dX3_weighSets_50 : decode cX3_weighSets 50 = .ok (.if_icmp .ge 29, 3) := by decide +kernel
theorem dX3_weighSets_53 : decode cX3_weighSets 53 = .ok (.aload_n 0, 1) := by decide +kernel
theorem dX3_weighSets_54 : decode cX3_weighSets 54 = .ok (.getfield 9, 3) := by decide +kernel
theorem dX3_weighSets_57 : decode cX3_weighSets 57 = .ok (.iload 6, 2) := by decide +kernel
theorem dX3_weighSets_59 : decode cX3_weighSets 59 = .ok (.iload 7, 2) := by decide +kernel
theorem dX3_weighSets_61 : decode cX3_weighSets 61 = .ok (.ior, 1) := by decide +kernel
theorem dX3_weighSets_62 : decode cX3_weighSets 62 = .ok (.aload_n 0, 1) := by decide +kernel
theorem dX3_weighSets_63 : decode cX3_weighSets 63 = .ok (.getfield 9, 3) := by decide +kernel
theorem dX3_weighSets_66 : decode cX3_weighSets 66 = .ok (.iload 7, 2) := by decide +kernel
theorem dX3_weighSets_68 : decode cX3_weighSets 68 = .ok (.iaload, 1) := by decide +kernel
theorem dX3_weighSets_69 : decode cX3_weighSets 69 = .ok (.iload 5, 2) := by decide +kernel
theorem dX3_weighSets_71 : decode cX3_weighSets 71 = .ok (.iadd, 1) := by decide +kernel
theorem dX3_weighSets_72 : decode cX3_weighSets 72 = .ok (.iastore, 1) := by decide +kernel
theorem dX3_weighSets_73 : decode cX3_weighSets 73 = .ok (.iinc 7 1, 3) := by decide +kernel
theorem dX3_weighSets_76 : decode cX3_weighSets 76 = .ok (.goto (-39), 3) := by decide +kernel
theorem dX3_weighSets_79 : decode cX3_weighSets 79 = .ok (.iinc 4 1, 3) := by decide +kernel
theorem dX3_weighSets_82 : decode cX3_weighSets 82 = .ok (.goto (-72), 3) := by decide +kernel
theorem dX3_weighSets_85 : decode cX3_weighSets 85 = .ok (.return_, 1) := by decide +kernel
theorem dX3_letOneHold_0 : decode cX3_letOneHold 0 = .ok (.iload_n 2, 1) := by decide +kernel
theorem dX3_letOneHold_1 : decode cX3_letOneHold 1 = .ok (.iconst 1, 1) := by decide +kernel
theorem dX3_letOneHold_2 : decode cX3_letOneHold 2 = .ok (.isub, 1) := by decide +kernel
theorem dX3_letOneHold_3 : decode cX3_letOneHold 3 = .ok (.istore_n 3, 1) := by decide +kernel
theorem dX3_letOneHold_4 : decode cX3_letOneHold 4 = .ok (.iload_n 3, 1) := by decide +kernel
theorem dX3_letOneHold_5 : decode cX3_letOneHold 5 = .ok (.ifCond .le 65, 3) := by decide +kernel
theorem dX3_letOneHold_8 : decode cX3_letOneHold 8 = .ok (.iload_n 3, 1) := by decide +kernel
theorem dX3_letOneHold_9 : decode cX3_letOneHold 9 = .ok (.istore 4, 2) := by decide +kernel
theorem dX3_letOneHold_11 : decode cX3_letOneHold 11 = .ok (.iload 4, 2) := by decide +kernel
theorem dX3_letOneHold_13 : decode cX3_letOneHold 13 = .ok (.ifCond .le 51, 3) := by decide +kernel
theorem dX3_letOneHold_16 : decode cX3_letOneHold 16 = .ok (.aload_n 0, 1) := by decide +kernel
theorem dX3_letOneHold_17 : decode cX3_letOneHold 17 = .ok (.getfield 9, 3) := by decide +kernel
theorem dX3_letOneHold_20 : decode cX3_letOneHold 20 = .ok (.iload 4, 2) := by decide +kernel
theorem dX3_letOneHold_22 : decode cX3_letOneHold 22 = .ok (.iaload, 1) := by decide +kernel
theorem dX3_letOneHold_23 : decode cX3_letOneHold 23 = .ok (.iload_n 1, 1) := by decide +kernel
theorem dX3_letOneHold_24 : decode cX3_letOneHold 24 = .ok (.if_icmp .gt 29, 3) := by decide +kernel
theorem dX3_letOneHold_27 : decode cX3_letOneHold 27 = .ok (.aload_n 0, 1) := by decide +kernel
theorem dX3_letOneHold_28 : decode cX3_letOneHold 28 = .ok (.getfield 15, 3) := by decide +kernel
theorem dX3_letOneHold_31 : decode cX3_letOneHold 31 = .ok (.iload_n 3, 1) := by decide +kernel
theorem dX3_letOneHold_32 : decode cX3_letOneHold 32 = .ok (.aload_n 0, 1) := by decide +kernel
theorem dX3_letOneHold_33 : decode cX3_letOneHold 33 = .ok (.getfield 15, 3) := by decide +kernel
theorem dX3_letOneHold_36 : decode cX3_letOneHold 36 = .ok (.iload_n 3, 1) := by decide +kernel
theorem dX3_letOneHold_37 : decode cX3_letOneHold 37 = .ok (.iaload, 1) := by decide +kernel
theorem dX3_letOneHold_38 : decode cX3_letOneHold 38 = .ok (.aload_n 0, 1) := by decide +kernel
theorem dX3_letOneHold_39 : decode cX3_letOneHold 39 = .ok (.getfield 15, 3) := by decide +kernel
theorem dX3_letOneHold_42 : decode cX3_letOneHold 42 = .ok (.iload_n 3, 1) := by decide +kernel
theorem dX3_letOneHold_43 : decode cX3_letOneHold 43 = .ok (.iload 4, 2) := by decide +kernel
theorem dX3_letOneHold_45 : decode cX3_letOneHold 45 = .ok (.ixor, 1) := by decide +kernel
theorem dX3_letOneHold_46 : decode cX3_letOneHold 46 = .ok (.iaload, 1) := by decide +kernel
theorem dX3_letOneHold_47 : decode cX3_letOneHold 47 = .ok (.iconst 1, 1) := by decide +kernel
theorem dX3_letOneHold_48 : decode cX3_letOneHold 48 = .ok (.iadd, 1) := by decide +kernel
theorem dX3_letOneHold_49 : decode cX3_letOneHold 49 = .ok (.invokestatic 43, 3) := by decide +kernel
theorem dX3_letOneHold_52 : decode cX3_letOneHold 52 = .ok (.iastore, 1) := by decide +kernel
theorem dX3_letOneHold_53 : decode cX3_letOneHold 53 = .ok (.iload 4, 2) := by decide +kernel
theorem dX3_letOneHold_55 : decode cX3_letOneHold 55 = .ok (.iconst 1, 1) := by decide +kernel
theorem dX3_letOneHold_56 : decode cX3_letOneHold 56 = .ok (.isub, 1) := by decide +kernel
theorem dX3_letOneHold_57 : decode cX3_letOneHold 57 = .ok (.iload_n 3, 1) := by decide +kernel
theorem dX3_letOneHold_58 : decode cX3_letOneHold 58 = .ok (.iand, 1) := by decide +kernel
theorem dX3_letOneHold_59 : decode cX3_letOneHold 59 = .ok (.istore 4, 2) := by decide +kernel
theorem dX3_letOneHold_61 : decode cX3_letOneHold 61 = .ok (.goto (-50), 3) := by decide +kernel
theorem dX3_letOneHold_64 : decode cX3_letOneHold 64 = .ok (.iinc 3 (-1), 3) := by decide +kernel
theorem dX3_letOneHold_67 : decode cX3_letOneHold 67 = .ok (.goto (-63), 3) := by decide +kernel
theorem dX3_letOneHold_70 : decode cX3_letOneHold 70 = .ok (.return_, 1) := by decide +kernel
theorem dX4_init_0 : decode cX4_init 0 = .ok (.aload_n 0, 1) := by decide +kernel
theorem dX4_init_1 : decode cX4_init 1 = .ok (.invokespecial 3, 3) := by decide +kernel
theorem dX4_init_4 : decode cX4_init 4 = .ok (.aload_n 0, 1) := by decide +kernel
theorem dX4_init_5 : decode cX4_init 5 = .ok (.bipush 60, 2) := by decide +kernel
theorem dX4_init_7 : decode cX4_init 7 = .ok (.newarray .int, 2) := by decide +kernel
theorem dX4_init_9 : decode cX4_init 9 = .ok (.putfield 9, 3) := by decide +kernel
theorem dX4_init_12 : decode cX4_init 12 = .ok (.aload_n 0, 1) := by decide +kernel
theorem dX4_init_13 : decode cX4_init 13 = .ok (.new 15, 3) := by decide +kernel
theorem dX4_init_16 : decode cX4_init 16 = .ok (.dup, 1) := by decide +kernel
theorem dX4_init_17 : decode cX4_init 17 = .ok (.invokespecial 17, 3) := by decide +kernel
theorem dX4_init_20 : decode cX4_init 20 = .ok (.putfield 18, 3) := by decide +kernel
theorem dX4_init_23 : decode cX4_init 23 = .ok (.aload_n 0, 1) := by decide +kernel
theorem dX4_init_24 : decode cX4_init 24 = .ok (.ldc 22, 2) := by decide +kernel
theorem dX4_init_26 : decode cX4_init 26 = .ok (.putfield 24, 3) := by decide +kernel
theorem dX4_init_29 : decode cX4_init 29 = .ok (.return_, 1) := by decide +kernel
theorem dX4_readInto_0 : decode cX4_readInto 0 = .ok (.aload_n 0, 1) := by decide +kernel
theorem dX4_readInto_1 : decode cX4_readInto 1 = .ok (.aload_n 1, 1) := by decide +kernel
theorem dX4_readInto_2 : decode cX4_readInto 2 = .ok (.putfield 18, 3) := by decide +kernel
theorem dX4_readInto_5 : decode cX4_readInto 5 = .ok (.aload_n 0, 1) := by decide +kernel
theorem dX4_readInto_6 : decode cX4_readInto 6 = .ok (.aload_n 2, 1) := by decide +kernel
theorem dX4_readInto_7 : decode cX4_readInto 7 = .ok (.getfield 28, 3) := by decide +kernel
theorem dX4_readInto_10 : decode cX4_readInto 10 = .ok (.putfield 24, 3) := by decide +kernel
theorem dX4_readInto_13 : decode cX4_readInto 13 = .ok (.aload_n 0, 1) := by decide +kernel
theorem dX4_readInto_14 : decode cX4_readInto 14 = .ok (.iconst 0, 1) := by decide +kernel
theorem dX4_readInto_15 : decode cX4_readInto 15 = .ok (.putfield 31, 3) := by decide +kernel
theorem dX4_readInto_18 : decode cX4_readInto 18 = .ok (.aload_n 0, 1) := by decide +kernel
theorem dX4_readInto_19 : decode cX4_readInto 19 = .ok (.iconst 0, 1) := by decide +kernel
theorem dX4_readInto_20 : decode cX4_readInto 20 = .ok (.putfield 35, 3) := by decide +kernel
theorem dX4_readInto_23 : decode cX4_readInto 23 = .ok (.aload_n 0, 1) := by decide +kernel
theorem dX4_readInto_24 : decode cX4_readInto 24 = .ok (.iconst (-1), 1) := by decide +kernel
theorem dX4_readInto_25 : decode cX4_readInto 25 = .ok (.putfield 38, 3) := by decide +kernel
theorem dX4_readInto_28 : decode cX4_readInto 28 = .ok (.aload_n 0, 1) := by decide +kernel
theorem dX4_readInto_29 : decode cX4_readInto 29 = .ok (.iconst 0, 1) := by decide +kernel
theorem dX4_readInto_30 : decode cX4_readInto 30 = .ok (.invokevirtual 41, 3) := by decide +kernel
theorem dX4_readInto_33 : decode cX4_readInto 33 = .ok (.aload_n 0, 1) := by decide +kernel
theorem dX4_readInto_34 : decode cX4_readInto 34 = .ok (.getfield 35, 3) := by decide +kernel
theorem dX4_readInto_37 : decode cX4_readInto 37 = .ok (.aload_n 0, 1) := by decide +kernel
theorem dX4_readInto_38 : decode cX4_readInto 38 = .ok (.getfield 18, 3) := by decide +kernel
theorem dX4_readInto_41 : decode cX4_readInto 41 = .ok (.getfield 45, 3) := by decide +kernel
theorem dX4_readInto_44 : decode cX4_readInto 44 = .ok (.if_icmp .ge 7, 3) := by decide +kernel
theorem dX4_readInto_47 : decode cX4_readInto 47 = .ok (.aload_n 0, 1) := by decide +kernel
theorem dX4_readInto_48 : decode cX4_readInto 48 = .ok (.invokevirtual 46, 3) := by decide +kernel
theorem dX4_readInto_51 : decode cX4_readInto 51 = .ok (.aload_n 0, 1) := by decide +kernel
theorem dX4_readInto_52 : decode cX4_readInto 52 = .ok (.getfield 38, 3) := by decide +kernel
theorem dX4_readInto_55 : decode cX4_readInto 55 = .ok (.ifCond .ge 15, 3) := by decide +kernel
theorem dX4_readInto_58 : decode cX4_readInto 58 = .ok (.aload_n 2, 1) := by decide +kernel
theorem dX4_readInto_59 : decode cX4_readInto 59 = .ok (.aload_n 0, 1) := by decide +kernel
theorem dX4_readInto_60 : decode cX4_readInto 60 = .ok (.getfield 9, 3) := by decide +kernel
theorem dX4_readInto_63 : decode cX4_readInto 63 = .ok (.aload_n 0, 1) := by decide +kernel
theorem dX4_readInto_64 : decode cX4_readInto 64 = .ok (.getfield 31, 3) := by decide +kernel
theorem dX4_readInto_67 : decode cX4_readInto 67 = .ok (.invokevirtual 49, 3) := by decide +kernel
theorem dX4_readInto_70 : decode cX4_readInto 70 = .ok (.aload_n 0, 1) := by decide +kernel
theorem dX4_readInto_71 : decode cX4_readInto 71 = .ok (.getfield 38, 3) := by decide +kernel
theorem dX4_readInto_74 : decode cX4_readInto 74 = .ok (.ireturn, 1) := by decide +kernel
theorem dX4_miss_0 : decode cX4_miss 0 = .ok (.aload_n 0, 1) := by decide +kernel
theorem dX4_miss_1 : decode cX4_miss 1 = .ok (.getfield 38, 3) := by decide +kernel
theorem dX4_miss_4 : decode cX4_miss 4 = .ok (.ifCond .ge 11, 3) := by decide +kernel
theorem dX4_miss_7 : decode cX4_miss 7 = .ok (.aload_n 0, 1) := by decide +kernel
theorem dX4_miss_8 : decode cX4_miss 8 = .ok (.aload_n 0, 1) := by decide +kernel
theorem dX4_miss_9 : decode cX4_miss 9 = .ok (.getfield 35, 3) := by decide +kernel
theorem dX4_miss_12 : decode cX4_miss 12 = .ok (.putfield 38, 3) := by decide +kernel
theorem dX4_miss_15 : decode cX4_miss 15 = .ok (.return_, 1) := by decide +kernel
theorem dX4_next_0 : decode cX4_next 0 = .ok (.aload_n 0, 1) := by decide +kernel
theorem dX4_next_1 : decode cX4_next 1 = .ok (.getfield 38, 3) := by decide +kernel
theorem dX4_next_4 : decode cX4_next 4 = .ok (.ifCond .ge 39, 3) := by decide +kernel
theorem dX4_next_7 : decode cX4_next 7 = .ok (.aload_n 0, 1) := by decide +kernel
theorem dX4_next_8 : decode cX4_next 8 = .ok (.getfield 35, 3) := by decide +kernel
theorem dX4_next_11 : decode cX4_next 11 = .ok (.ifCond .lt 32, 3) := by decide +kernel
theorem dX4_next_14 : decode cX4_next 14 = .ok (.aload_n 0, 1) := by decide +kernel
theorem dX4_next_15 : decode cX4_next 15 = .ok (.getfield 35, 3) := by decide +kernel
theorem dX4_next_18 : decode cX4_next 18 = .ok (.aload_n 0, 1) := by decide +kernel
theorem dX4_next_19 : decode cX4_next 19 = .ok (.getfield 18, 3) := by decide +kernel
theorem dX4_next_22 : decode cX4_next 22 = .ok (.getfield 45, 3) := by decide +kernel
theorem dX4_next_25 : decode cX4_next 25 = .ok (.if_icmp .ge 18, 3) := by decide +kernel
theorem dX4_next_28 : decode cX4_next 28 = .ok (.aload_n 0, 1) := by decide +kernel
theorem dX4_next_29 : decode cX4_next 29 = .ok (.getfield 35, 3) := by decide +kernel
theorem dX4_next_32 : decode cX4_next 32 = .ok (.aload_n 0, 1) := by decide +kernel
theorem dX4_next_33 : decode cX4_next 33 = .ok (.getfield 18, 3) := by decide +kernel
theorem dX4_next_36 : decode cX4_next 36 = .ok (.getfield 53, 3) := by decide +kernel
theorem dX4_next_39 : decode cX4_next 39 = .ok (.arraylength, 1) := by decide +kernel
theorem dX4_next_40 : decode cX4_next 40 = .ok (.if_icmp .lt 5, 3) := by decide +kernel
theorem dX4_next_43 : decode cX4_next 43 = .ok (.iconst (-1), 1) := by decide +kernel
theorem dX4_next_44 : decode cX4_next 44 = .ok (.ireturn, 1) := by decide +kernel
theorem dX4_next_45 : decode cX4_next 45 = .ok (.aload_n 0, 1) := by decide +kernel
theorem dX4_next_46 : decode cX4_next 46 = .ok (.getfield 18, 3) := by decide +kernel
theorem dX4_next_49 : decode cX4_next 49 = .ok (.getfield 53, 3) := by decide +kernel
theorem dX4_next_52 : decode cX4_next 52 = .ok (.aload_n 0, 1) := by decide +kernel
theorem dX4_next_53 : decode cX4_next 53 = .ok (.getfield 35, 3) := by decide +kernel
theorem dX4_next_56 : decode cX4_next 56 = .ok (.baload, 1) := by decide +kernel
theorem dX4_next_57 : decode cX4_next 57 = .ok (.sipush 255, 3) := by decide +kernel
theorem dX4_next_60 : decode cX4_next 60 = .ok (.iand, 1) := by decide +kernel
theorem dX4_next_61 : decode cX4_next 61 = .ok (.ireturn, 1) := by decide +kernel
theorem dX4_write_0 : decode cX4_write 0 = .ok (.aload_n 0, 1) := by decide +kernel
theorem dX4_write_1 : decode cX4_write 1 = .ok (.getfield 38, 3) := by decide +kernel
theorem dX4_write_4 : decode cX4_write 4 = .ok (.ifCond .ge 35, 3) := by decide +kernel
theorem dX4_write_7 : decode cX4_write 7 = .ok (.aload_n 0, 1) := by decide +kernel
theorem dX4_write_8 : decode cX4_write 8 = .ok (.getfield 31, 3) := by decide +kernel
theorem dX4_write_11 : decode cX4_write 11 = .ok (.aload_n 0, 1) := by decide +kernel
theorem dX4_write_12 : decode cX4_write 12 = .ok (.getfield 9, 3) := by decide +kernel
theorem dX4_write_15 : decode cX4_write 15 = .ok (.arraylength, 1) := by decide +kernel
theorem dX4_write_16 : decode cX4_write 16 = .ok (.if_icmp .ge 23, 3) := by decide +kernel
theorem dX4_write_19 : decode cX4_write 19 = .ok (.aload_n 0, 1) := by decide +kernel
theorem dX4_write_20 : decode cX4_write 20 = .ok (.getfield 9, 3) := by decide +kernel
theorem dX4_write_23 : decode cX4_write 23 = .ok (.aload_n 0, 1) := by decide +kernel
theorem dX4_write_24 : decode cX4_write 24 = .ok (.getfield 31, 3) := by decide +kernel
theorem dX4_write_27 : decode cX4_write 27 = .ok (.iload_n 1, 1) := by decide +kernel
theorem dX4_write_28 : decode cX4_write 28 = .ok (.iastore, 1) := by decide +kernel
theorem dX4_write_29 : decode cX4_write 29 = .ok (.aload_n 0, 1) := by decide +kernel
theorem dX4_write_30 : decode cX4_write 30 = .ok (.dup, 1) := by decide +kernel
theorem dX4_write_31 : decode cX4_write 31 = .ok (.getfield 31, 3) := by decide +kernel
theorem dX4_write_34 : decode cX4_write 34 = .ok (.iconst 1, 1) := by decide +kernel
theorem dX4_write_35 : decode cX4_write 35 = .ok (.iadd, 1) := by decide +kernel
theorem dX4_write_36 : decode cX4_write 36 = .ok (.putfield 31, 3) := by decide +kernel
theorem dX4_write_39 : decode cX4_write 39 = .ok (.return_, 1) := by decide +kernel
theorem dX4_readEither_0 : decode cX4_readEither 0 = .ok (.aload_n 0, 1) := by decide +kernel
theorem dX4_readEither_1 : decode cX4_readEither 1 = .ok (.iload_n 1, 1) := by decide +kernel
theorem dX4_readEither_2 : decode cX4_readEither 2 = .ok (.invokevirtual 57, 3) := by decide +kernel
theorem dX4_readEither_5 : decode cX4_readEither 5 = .ok (.iconst 0, 1) := by decide +kernel
theorem dX4_readEither_6 : decode cX4_readEither 6 = .ok (.istore_n 2, 1) := by decide +kernel
theorem dX4_readEither_7 : decode cX4_readEither 7 = .ok (.iload_n 2, 1) := by decide +kernel
theorem dX4_readEither_8 : decode cX4_readEither 8 = .ok (.bipush 60, 2) := by decide +kernel
theorem dX4_readEither_10 : decode cX4_readEither 10 = .ok (.if_icmp .ge 39, 3) := by decide +kernel
theorem dX4_readEither_13 : decode cX4_readEither 13 = .ok (.aload_n 0, 1) := by decide +kernel
theorem dX4_readEither_14 : decode cX4_readEither 14 = .ok (.invokevirtual 60, 3) := by decide +kernel
theorem dX4_readEither_17 : decode cX4_readEither 17 = .ok (.bipush 124, 2) := by decide +kernel
theorem dX4_readEither_19 : decode cX4_readEither 19 = .ok (.if_icmp .ne 30, 3) := by decide +kernel
theorem dX4_readEither_22 : decode cX4_readEither 22 = .ok (.aload_n 0, 1) := by decide +kernel
theorem dX4_readEither_23 : decode cX4_readEither 23 = .ok (.dup, 1) := by decide +kernel
theorem dX4_readEither_24 : decode cX4_readEither 24 = .ok (.getfield 35, 3) := by decide +kernel
theorem dX4_readEither_27 : decode cX4_readEither 27 = .ok (.iconst 1, 1) := by decide +kernel
theorem dX4_readEither_28 : decode cX4_readEither 28 = .ok (.iadd, 1) := by decide +kernel
theorem dX4_readEither_29 : decode cX4_readEither 29 = .ok (.putfield 35, 3) := by decide +kernel
theorem dX4_readEither_32 : decode cX4_readEither 32 = .ok (.aload_n 0, 1) := by decide +kernel
theorem dX4_readEither_33 : decode cX4_readEither 33 = .ok (.iload_n 1, 1) := by decide +kernel
theorem dX4_readEither_34 : decode cX4_readEither 34 = .ok (.invokevirtual 57, 3) := by decide +kernel
theorem dX4_readEither_37 : decode cX4_readEither 37 = .ok (.aload_n 0, 1) := by decide +kernel
theorem dX4_readEither_38 : decode cX4_readEither 38 = .ok (.bipush (-124), 2) := by decide +kernel
theorem dX4_readEither_40 : decode cX4_readEither 40 = .ok (.invokevirtual 64, 3) := by decide +kernel
theorem dX4_readEither_43 : decode cX4_readEither 43 = .ok (.iinc 2 1, 3) := by decide +kernel
theorem dX4_readEither_46 : decode cX4_readEither 46 = .ok (.goto (-39), 3) := by decide +kernel
theorem dX4_readEither_49 : decode cX4_readEither 49 = .ok (.return_, 1) := by decide +kernel
theorem dX4_readBoth_0 : decode cX4_readBoth 0 = .ok (.aload_n 0, 1) := by decide +kernel
theorem dX4_readBoth_1 : decode cX4_readBoth 1 = .ok (.iload_n 1, 1) := by decide +kernel
theorem dX4_readBoth_2 : decode cX4_readBoth 2 = .ok (.invokevirtual 67, 3) := by decide +kernel
theorem dX4_readBoth_5 : decode cX4_readBoth 5 = .ok (.iconst 0, 1) := by decide +kernel
theorem dX4_readBoth_6 : decode cX4_readBoth 6 = .ok (.istore_n 2, 1) := by decide +kernel
theorem dX4_readBoth_7 : decode cX4_readBoth 7 = .ok (.iload_n 2, 1) := by decide +kernel
theorem dX4_readBoth_8 : decode cX4_readBoth 8 = .ok (.bipush 60, 2) := by decide +kernel
theorem dX4_readBoth_10 : decode cX4_readBoth 10 = .ok (.if_icmp .ge 39, 3) := by decide +kernel
theorem dX4_readBoth_13 : decode cX4_readBoth 13 = .ok (.aload_n 0, 1) := by decide +kernel
theorem dX4_readBoth_14 : decode cX4_readBoth 14 = .ok (.invokevirtual 60, 3) := by decide +kernel
theorem dX4_readBoth_17 : decode cX4_readBoth 17 = .ok (.bipush 38, 2) := by decide +kernel
theorem dX4_readBoth_19 : decode cX4_readBoth 19 = .ok (.if_icmp .ne 30, 3) := by decide +kernel
theorem dX4_readBoth_22 : decode cX4_readBoth 22 = .ok (.aload_n 0, 1) := by decide +kernel
theorem dX4_readBoth_23 : decode cX4_readBoth 23 = .ok (.dup, 1) := by decide +kernel
theorem dX4_readBoth_24 : decode cX4_readBoth 24 = .ok (.getfield 35, 3) := by decide +kernel
theorem dX4_readBoth_27 : decode cX4_readBoth 27 = .ok (.iconst 1, 1) := by decide +kernel
theorem dX4_readBoth_28 : decode cX4_readBoth 28 = .ok (.iadd, 1) := by decide +kernel
theorem dX4_readBoth_29 : decode cX4_readBoth 29 = .ok (.putfield 35, 3) := by decide +kernel
theorem dX4_readBoth_32 : decode cX4_readBoth 32 = .ok (.aload_n 0, 1) := by decide +kernel
theorem dX4_readBoth_33 : decode cX4_readBoth 33 = .ok (.iload_n 1, 1) := by decide +kernel
theorem dX4_readBoth_34 : decode cX4_readBoth 34 = .ok (.invokevirtual 67, 3) := by decide +kernel
theorem dX4_readBoth_37 : decode cX4_readBoth 37 = .ok (.aload_n 0, 1) := by decide +kernel
theorem dX4_readBoth_38 : decode cX4_readBoth 38 = .ok (.bipush (-38), 2) := by decide +kernel
theorem dX4_readBoth_40 : decode cX4_readBoth 40 = .ok (.invokevirtual 64, 3) := by decide +kernel
theorem dX4_readBoth_43 : decode cX4_readBoth 43 = .ok (.iinc 2 1, 3) := by decide +kernel
theorem dX4_readBoth_46 : decode cX4_readBoth 46 = .ok (.goto (-39), 3) := by decide +kernel
theorem dX4_readBoth_49 : decode cX4_readBoth 49 = .ok (.return_, 1) := by decide +kernel
theorem dX4_readCompared_0 : decode cX4_readCompared 0 = .ok (.aload_n 0, 1) := by decide +kernel
theorem dX4_readCompared_1 : decode cX4_readCompared 1 = .ok (.iload_n 1, 1) := by decide +kernel
theorem dX4_readCompared_2 : decode cX4_readCompared 2 = .ok (.invokevirtual 70, 3) := by decide +kernel
theorem dX4_readCompared_5 : decode cX4_readCompared 5 = .ok (.aload_n 0, 1) := by decide +kernel
theorem dX4_readCompared_6 : decode cX4_readCompared 6 = .ok (.invokevirtual 60, 3) := by decide +kernel
theorem dX4_readCompared_9 : decode cX4_readCompared 9 = .ok (.istore_n 2, 1) := by decide +kernel
theorem dX4_readCompared_10 : decode cX4_readCompared 10 = .ok (.iload_n 2, 1) := by decide +kernel
theorem dX4_readCompared_11 : decode cX4_readCompared 11 = .ok (.bipush 60, 2) := by decide +kernel
theorem dX4_readCompared_13 : decode cX4_readCompared 13 = .ok (.if_icmp .eq 15, 3) := by decide +kernel
theorem dX4_readCompared_16 : decode cX4_readCompared 16 = .ok (.iload_n 2, 1) := by decide +kernel
theorem dX4_readCompared_17 : decode cX4_readCompared 17 = .ok (.bipush 61, 2) := by decide +kernel
theorem dX4_readCompared_19 : decode cX4_readCompared 19 = .ok (.if_icmp .eq 9, 3) := by decide +kernel
theorem dX4_readCompared_22 : decode cX4_readCompared 22 = .ok (.iload_n 2, 1) := by decide +kernel
theorem dX4_readCompared_23 : decode cX4_readCompared 23 = .ok (.bipush 62, 2) := by decide +kernel
theorem dX4_readCompared_25 : decode cX4_readCompared 25 = .ok (.if_icmp .ne 24, 3) := by decide +kernel
theorem dX4_readCompared_28 : decode cX4_readCompared 28 = .ok (.aload_n 0, 1) := by decide +kernel
theorem dX4_readCompared_29 : decode cX4_readCompared 29 = .ok (.dup, 1) := by decide +kernel
theorem dX4_readCompared_30 : decode cX4_readCompared 30 = .ok (.getfield 35, 3) := by decide +kernel
theorem dX4_readCompared_33 : decode cX4_readCompared 33 = .ok (.iconst 1, 1) := by decide +kernel
theorem dX4_readCompared_34 : decode cX4_readCompared 34 = .ok (.iadd, 1) := by decide +kernel
theorem dX4_readCompared_35 : decode cX4_readCompared 35 = .ok (.putfield 35, 3) := by decide +kernel
theorem dX4_readCompared_38 : decode cX4_readCompared 38 = .ok (.aload_n 0, 1) := by decide +kernel
theorem dX4_readCompared_39 : decode cX4_readCompared 39 = .ok (.iload_n 1, 1) := by decide +kernel
theorem dX4_readCompared_40 : decode cX4_readCompared 40 = .ok (.invokevirtual 70, 3) := by decide +kernel
theorem dX4_readCompared_43 : decode cX4_readCompared 43 = .ok (.aload_n 0, 1) := by decide +kernel
theorem dX4_readCompared_44 : decode cX4_readCompared 44 = .ok (.iload_n 2, 1) := by decide +kernel
theorem dX4_readCompared_45 : decode cX4_readCompared 45 = .ok (.ineg, 1) := by decide +kernel
theorem dX4_readCompared_46 : decode cX4_readCompared 46 = .ok (.invokevirtual 64, 3) := by decide +kernel
theorem dX4_readCompared_49 : decode cX4_readCompared 49 = .ok (.return_, 1) := by decide +kernel
theorem dX4_readSum_0 : decode cX4_readSum 0 = .ok (.aload_n 0, 1) := by decide +kernel
theorem dX4_readSum_1 : decode cX4_readSum 1 = .ok (.iload_n 1, 1) := by decide +kernel
theorem dX4_readSum_2 : decode cX4_readSum 2 = .ok (.invokevirtual 73, 3) := by decide +kernel
theorem dX4_readSum_5 : decode cX4_readSum 5 = .ok (.aload_n 0, 1) := by decide +kernel
theorem dX4_readSum_6 : decode cX4_readSum 6 = .ok (.invokevirtual 60, 3) := by decide +kernel
theorem dX4_readSum_9 : decode cX4_readSum 9 = .ok (.istore_n 2, 1) := by decide +kernel
theorem dX4_readSum_10 : decode cX4_readSum 10 = .ok (.iconst 0, 1) := by decide +kernel
theorem dX4_readSum_11 : decode cX4_readSum 11 = .ok (.istore_n 3, 1) := by decide +kernel
theorem dX4_readSum_12 : decode cX4_readSum 12 = .ok (.iload_n 3, 1) := by decide +kernel
theorem dX4_readSum_13 : decode cX4_readSum 13 = .ok (.bipush 60, 2) := by decide +kernel
theorem dX4_readSum_15 : decode cX4_readSum 15 = .ok (.if_icmp .ge 47, 3) := by decide +kernel
theorem dX4_readSum_18 : decode cX4_readSum 18 = .ok (.iload_n 2, 1) := by decide +kernel
theorem dX4_readSum_19 : decode cX4_readSum 19 = .ok (.bipush 43, 2) := by decide +kernel
theorem dX4_readSum_21 : decode cX4_readSum 21 = .ok (.if_icmp .eq 9, 3) := by decide +kernel
theorem dX4_readSum_24 : decode cX4_readSum 24 = .ok (.iload_n 2, 1) := by decide +kernel
theorem dX4_readSum_25 : decode cX4_readSum 25 = .ok (.bipush 45, 2) := by decide +kernel
theorem dX4_readSum_27 : decode cX4_readSum 27 = .ok (.if_icmp .ne 35, 3) := by decide +kernel
theorem dX4_readSum_30 : decode cX4_readSum 30 = .ok (.aload_n 0, 1) := by decide +kernel
theorem dX4_readSum_31 : decode cX4_readSum 31 = .ok (.dup, 1) := by decide +kernel
theorem dX4_readSum_32 : decode cX4_readSum 32 = .ok (.getfield 35, 3) := by decide +kernel
theorem dX4_readSum_35 : decode cX4_readSum 35 = .ok (.iconst 1, 1) := by decide +kernel
theorem dX4_readSum_36 : decode cX4_readSum 36 = .ok (.iadd, 1) := by decide +kernel
theorem dX4_readSum_37 : decode cX4_readSum 37 = .ok (.putfield 35, 3) := by decide +kernel
theorem dX4_readSum_40 : decode cX4_readSum 40 = .ok (.aload_n 0, 1) := by decide +kernel
theorem dX4_readSum_41 : decode cX4_readSum 41 = .ok (.iload_n 1, 1) := by decide +kernel
theorem dX4_readSum_42 : decode cX4_readSum 42 = .ok (.invokevirtual 73, 3) := by decide +kernel
theorem dX4_readSum_45 : decode cX4_readSum 45 = .ok (.aload_n 0, 1) := by decide +kernel
theorem dX4_readSum_46 : decode cX4_readSum 46 = .ok (.iload_n 2, 1) := by decide +kernel
theorem dX4_readSum_47 : decode cX4_readSum 47 = .ok (.ineg, 1) := by decide +kernel
theorem dX4_readSum_48 : decode cX4_readSum 48 = .ok (.invokevirtual 64, 3) := by decide +kernel
theorem dX4_readSum_51 : decode cX4_readSum 51 = .ok (.aload_n 0, 1) := by decide +kernel
theorem dX4_readSum_52 : decode cX4_readSum 52 = .ok (.invokevirtual 60, 3) := by decide +kernel
theorem dX4_readSum_55 : decode cX4_readSum 55 = .ok (.istore_n 2, 1) := by decide +kernel
theorem dX4_readSum_56 : decode cX4_readSum 56 = .ok (.iinc 3 1, 3) := by decide +kernel
theorem dX4_readSum_59 : decode cX4_readSum 59 = .ok (.goto (-47), 3) := by decide +kernel
theorem dX4_readSum_62 : decode cX4_readSum 62 = .ok (.return_, 1) := by decide +kernel
theorem dX4_readProduct_0 : decode cX4_readProduct 0 = .ok (.aload_n 0, 1) := by decide +kernel
theorem dX4_readProduct_1 : decode cX4_readProduct 1 = .ok (.iload_n 1, 1) := by decide +kernel
theorem dX4_readProduct_2 : decode cX4_readProduct 2 = .ok (.invokevirtual 76, 3) := by decide +kernel
theorem dX4_readProduct_5 : decode cX4_readProduct 5 = .ok (.aload_n 0, 1) := by decide +kernel
theorem dX4_readProduct_6 : decode cX4_readProduct 6 = .ok (.invokevirtual 60, 3) := by decide +kernel
theorem dX4_readProduct_9 : decode cX4_readProduct 9 = .ok (.istore_n 2, 1) := by decide +kernel
theorem dX4_readProduct_10 : decode cX4_readProduct 10 = .ok (.iconst 0, 1) := by decide +kernel
theorem dX4_readProduct_11 : decode cX4_readProduct 11 = .ok (.istore_n 3, 1) := by decide +kernel
theorem dX4_readProduct_12 : decode cX4_readProduct 12 = .ok (.iload_n 3, 1) := by decide +kernel
theorem dX4_readProduct_13 : decode cX4_readProduct 13 = .ok (.bipush 60, 2) := by decide +kernel
theorem dX4_readProduct_15 : decode cX4_readProduct 15 = .ok (.if_icmp .ge 53, 3) := by decide +kernel
theorem dX4_readProduct_18 : decode cX4_readProduct 18 = .ok (.iload_n 2, 1) := by decide +kernel
theorem dX4_readProduct_19 : decode cX4_readProduct 19 = .ok (.bipush 42, 2) := by decide +kernel
theorem dX4_readProduct_21 : decode cX4_readProduct 21 = .ok (.if_icmp .eq 15, 3) := by decide +kernel
theorem dX4_readProduct_24 : decode cX4_readProduct 24 = .ok (.iload_n 2, 1) := by decide +kernel
theorem dX4_readProduct_25 : decode cX4_readProduct 25 = .ok (.bipush 47, 2) := by decide +kernel
theorem dX4_readProduct_27 : decode cX4_readProduct 27 = .ok (.if_icmp .eq 9, 3) := by decide +kernel
theorem dX4_readProduct_30 : decode cX4_readProduct 30 = .ok (.iload_n 2, 1) := by decide +kernel
theorem dX4_readProduct_31 : decode cX4_readProduct 31 = .ok (.bipush 37, 2) := by decide +kernel
theorem dX4_readProduct_33 : decode cX4_readProduct 33 = .ok (.if_icmp .ne 35, 3) := by decide +kernel
theorem dX4_readProduct_36 : decode cX4_readProduct 36 = .ok (.aload_n 0, 1) := by decide +kernel
theorem dX4_readProduct_37 : decode cX4_readProduct 37 = .ok (.dup, 1) := by decide +kernel
theorem dX4_readProduct_38 : decode cX4_readProduct 38 = .ok (.getfield 35, 3) := by decide +kernel
theorem dX4_readProduct_41 : decode cX4_readProduct 41 = .ok (.iconst 1, 1) := by decide +kernel
theorem dX4_readProduct_42 : decode cX4_readProduct 42 = .ok (.iadd, 1) := by decide +kernel
theorem dX4_readProduct_43 : decode cX4_readProduct 43 = .ok (.putfield 35, 3) := by decide +kernel
theorem dX4_readProduct_46 : decode cX4_readProduct 46 = .ok (.aload_n 0, 1) := by decide +kernel
theorem dX4_readProduct_47 : decode cX4_readProduct 47 = .ok (.iload_n 1, 1) := by decide +kernel
theorem dX4_readProduct_48 : decode cX4_readProduct 48 = .ok (.invokevirtual 76, 3) := by decide +kernel
theorem dX4_readProduct_51 : decode cX4_readProduct 51 = .ok (.aload_n 0, 1) := by decide +kernel
theorem dX4_readProduct_52 : decode cX4_readProduct 52 = .ok (.iload_n 2, 1) := by decide +kernel
theorem dX4_readProduct_53 : decode cX4_readProduct 53 = .ok (.ineg, 1) := by decide +kernel
theorem dX4_readProduct_54 : decode cX4_readProduct 54 = .ok (.invokevirtual 64, 3) := by decide +kernel
theorem dX4_readProduct_57 : decode cX4_readProduct 57 = .ok (.aload_n 0, 1) := by decide +kernel
theorem dX4_readProduct_58 : decode cX4_readProduct 58 = .ok (.invokevirtual 60, 3) := by decide +kernel
theorem dX4_readProduct_61 : decode cX4_readProduct 61 = .ok (.istore_n 2, 1) := by decide +kernel
theorem dX4_readProduct_62 : decode cX4_readProduct 62 = .ok (.iinc 3 1, 3) := by decide +kernel
theorem dX4_readProduct_65 : decode cX4_readProduct 65 = .ok (.goto (-53), 3) := by decide +kernel
theorem dX4_readProduct_68 : decode cX4_readProduct 68 = .ok (.return_, 1) := by decide +kernel
theorem dX4_readPart_0 : decode cX4_readPart 0 = .ok (.aload_n 0, 1) := by decide +kernel
theorem dX4_readPart_1 : decode cX4_readPart 1 = .ok (.invokevirtual 60, 3) := by decide +kernel
theorem dX4_readPart_4 : decode cX4_readPart 4 = .ok (.istore_n 2, 1) := by decide +kernel
theorem dX4_readPart_5 : decode cX4_readPart 5 = .ok (.iload_n 1, 1) := by decide +kernel
theorem dX4_readPart_6 : decode cX4_readPart 6 = .ok (.iconst 5, 1) := by decide +kernel
theorem dX4_readPart_7 : decode cX4_readPart 7 = .ok (.if_icmp .ge 7, 3) := by decide +kernel
theorem dX4_readPart_10 : decode cX4_readPart 10 = .ok (.iconst 1, 1) := by decide +kernel
theorem dX4_readPart_11 : decode cX4_readPart 11 = .ok (.goto 4, 3) := by decide +kernel
theorem dX4_readPart_14 : decode cX4_readPart 14 = .ok (.iconst 0, 1) := by decide +kernel
theorem dX4_readPart_15 : decode cX4_readPart 15 = .ok (.istore_n 3, 1) := by decide +kernel
theorem dX4_readPart_16 : decode cX4_readPart 16 = .ok (.iload_n 2, 1) := by decide +kernel
theorem dX4_readPart_17 : decode cX4_readPart 17 = .ok (.invokestatic 79, 3) := by decide +kernel
theorem dX4_readPart_20 : decode cX4_readPart 20 = .ok (.ifCond .eq 10, 3) := by decide +kernel
theorem dX4_readPart_23 : decode cX4_readPart 23 = .ok (.aload_n 0, 1) := by decide +kernel
theorem dX4_readPart_24 : decode cX4_readPart 24 = .ok (.invokevirtual 83, 3) := by decide +kernel
theorem dX4_readPart_27 : decode cX4_readPart 27 = .ok (.goto 78, 3) := by decide +kernel
theorem dX4_readPart_30 : decode cX4_readPart 30 = .ok (.iload_n 2, 1) := by decide +kernel
theorem dX4_readPart_31 : decode cX4_readPart 31 = .ok (.bipush 33, 2) := by decide +kernel
theorem dX4_readPart_33 : decode cX4_readPart 33 = .ok (.if_icmp .ne 33, 3) := by decide +kernel
theorem dX4_readPart_36 : decode cX4_readPart 36 = .ok (.iload_n 3, 1) := by decide +kernel
theorem dX4_readPart_37 : decode cX4_readPart 37 = .ok (.ifCond .eq 29, 3) := by decide +kernel
theorem dX4_readPart_40 : decode cX4_readPart 40 = .ok (.aload_n 0, 1) := by decide +kernel
theorem dX4_readPart_41 : decode cX4_readPart 41 = .ok (.dup, 1) := by decide +kernel
theorem dX4_readPart_42 : decode cX4_readPart 42 = .ok (.getfield 35, 3) := by decide +kernel
theorem dX4_readPart_45 : decode cX4_readPart 45 = .ok (.iconst 1, 1) := by decide +kernel
theorem dX4_readPart_46 : decode cX4_readPart 46 = .ok (.iadd, 1) := by decide +kernel
theorem dX4_readPart_47 : decode cX4_readPart 47 = .ok (.putfield 35, 3) := by decide +kernel
theorem dX4_readPart_50 : decode cX4_readPart 50 = .ok (.aload_n 0, 1) := by decide +kernel
theorem dX4_readPart_51 : decode cX4_readPart 51 = .ok (.iload_n 1, 1) := by decide +kernel
theorem dX4_readPart_52 : decode cX4_readPart 52 = .ok (.iconst 1, 1) := by decide +kernel
theorem dX4_readPart_53 : decode cX4_readPart 53 = .ok (.iadd, 1) := by decide +kernel
theorem dX4_readPart_54 : decode cX4_readPart 54 = .ok (.invokevirtual 76, 3) := by decide +kernel
theorem dX4_readPart_57 : decode cX4_readPart 57 = .ok (.aload_n 0, 1) := by decide +kernel
theorem dX4_readPart_58 : decode cX4_readPart 58 = .ok (.bipush (-33), 2) := by decide +kernel
theorem dX4_readPart_60 : decode cX4_readPart 60 = .ok (.invokevirtual 64, 3) := by decide +kernel
theorem dX4_readPart_63 : decode cX4_readPart 63 = .ok (.goto 42, 3) := by decide +kernel
theorem dX4_readPart_66 : decode cX4_readPart 66 = .ok (.iload_n 2, 1) := by decide +kernel
theorem dX4_readPart_67 : decode cX4_readPart 67 = .ok (.bipush 40, 2) := by decide +kernel
theorem dX4_readPart_69 : decode cX4_readPart 69 = .ok (.if_icmp .ne 31, 3) := by decide +kernel
theorem dX4_readPart_72 : decode cX4_readPart 72 = .ok (.iload_n 3, 1) := by decide +kernel
theorem dX4_readPart_73 : decode cX4_readPart 73 = .ok (.ifCond .eq 27, 3) := by decide +kernel
theorem dX4_readPart_76 : decode cX4_readPart 76 = .ok (.aload_n 0, 1) := by decide +kernel
theorem dX4_readPart_77 : decode cX4_readPart 77 = .ok (.dup, 1) := by decide +kernel
theorem dX4_readPart_78 : decode cX4_readPart 78 = .ok (.getfield 35, 3) := by decide +kernel
theorem dX4_readPart_81 : decode cX4_readPart 81 = .ok (.iconst 1, 1) := by decide +kernel
theorem dX4_readPart_82 : decode cX4_readPart 82 = .ok (.iadd, 1) := by decide +kernel
theorem dX4_readPart_83 : decode cX4_readPart 83 = .ok (.putfield 35, 3) := by decide +kernel
theorem dX4_readPart_86 : decode cX4_readPart 86 = .ok (.aload_n 0, 1) := by decide +kernel
theorem dX4_readPart_87 : decode cX4_readPart 87 = .ok (.iload_n 1, 1) := by decide +kernel
theorem dX4_readPart_88 : decode cX4_readPart 88 = .ok (.iconst 1, 1) := by decide +kernel
theorem dX4_readPart_89 : decode cX4_readPart 89 = .ok (.iadd, 1) := by decide +kernel
theorem dX4_readPart_90 : decode cX4_readPart 90 = .ok (.invokevirtual 41, 3) := by decide +kernel
theorem dX4_readPart_93 : decode cX4_readPart 93 = .ok (.aload_n 0, 1) := by decide +kernel
theorem dX4_readPart_94 : decode cX4_readPart 94 = .ok (.invokevirtual 86, 3) := by decide +kernel
theorem dX4_readPart_97 : decode cX4_readPart 97 = .ok (.goto 8, 3) := by decide +kernel
theorem dX4_readPart_100 : decode cX4_readPart 100 = .ok (.aload_n 0, 1) := by decide +kernel
theorem dX4_readPart_101 : decode cX4_readPart 101 = .ok (.iload_n 2, 1) := by decide +kernel
theorem dX4_readPart_102 : decode cX4_readPart 102 = .ok (.invokevirtual 89, 3) := by decide +kernel
theorem dX4_readPart_105 : decode cX4_readPart 105 = .ok (.return_, 1) := by decide +kernel
theorem dX4_readClosing_0 : decode cX4_readClosing 0 = .ok (.aload_n 0, 1) := by decide +kernel
theorem dX4_readClosing_1 : decode cX4_readClosing 1 = .ok (.invokevirtual 60, 3) := by decide +kernel
theorem dX4_readClosing_4 : decode cX4_readClosing 4 = .ok (.bipush 41, 2) := by decide +kernel
theorem dX4_readClosing_6 : decode cX4_readClosing 6 = .ok (.if_icmp .ne 16, 3) := by decide +kernel
theorem dX4_readClosing_9 : decode cX4_readClosing 9 = .ok (.aload_n 0, 1) := by decide +kernel
theorem dX4_readClosing_10 : decode cX4_readClosing 10 = .ok (.dup, 1) := by decide +kernel
theorem dX4_readClosing_11 : decode cX4_readClosing 11 = .ok (.getfield 35, 3) := by decide +kernel
theorem dX4_readClosing_14 : decode cX4_readClosing 14 = .ok (.iconst 1, 1) := by decide +kernel
theorem dX4_readClosing_15 : decode cX4_readClosing 15 = .ok (.iadd, 1) := by decide +kernel
theorem dX4_readClosing_16 : decode cX4_readClosing 16 = .ok (.putfield 35, 3) := by decide +kernel
theorem dX4_readClosing_19 : decode cX4_readClosing 19 = .ok (.goto 7, 3) := by decide +kernel
theorem dX4_readClosing_22 : decode cX4_readClosing 22 = .ok (.aload_n 0, 1) := by decide +kernel
theorem dX4_readClosing_23 : decode cX4_readClosing 23 = .ok (.invokevirtual 46, 3) := by decide +kernel
theorem dX4_readClosing_26 : decode cX4_readClosing 26 = .ok (.return_, 1) := by decide +kernel
theorem dX4_readName_0 : decode cX4_readName 0 = .ok (.iload_n 1, 1) := by decide +kernel
theorem dX4_readName_1 : decode cX4_readName 1 = .ok (.ifCond .ge 7, 3) := by decide +kernel
theorem dX4_readName_4 : decode cX4_readName 4 = .ok (.iconst (-1), 1) := by decide +kernel
theorem dX4_readName_5 : decode cX4_readName 5 = .ok (.goto 12, 3) := by decide +kernel
theorem dX4_readName_8 : decode cX4_readName 8 = .ok (.aload_n 0, 1) := by decide +kernel
theorem dX4_readName_9 : decode cX4_readName 9 = .ok (.getfield 24, 3) := by decide +kernel
theorem dX4_readName_12 : decode cX4_readName 12 = .ok (.iload_n 1, 1) := by decide +kernel
theorem dX4_readName_13 : decode cX4_readName 13 = .ok (.i2c, 1) := by decide +kernel
theorem dX4_readName_14 : decode cX4_readName 14 = .ok (.invokevirtual 92, 3) := by decide +kernel
theorem dX4_readName_17 : decode cX4_readName 17 = .ok (.istore_n 2, 1) := by decide +kernel
theorem dX4_readName_18 : decode cX4_readName 18 = .ok (.iload_n 2, 1) := by decide +kernel
theorem dX4_readName_19 : decode cX4_readName 19 = .ok (.ifCond .ge 10, 3) := by decide +kernel
theorem dX4_readName_22 : decode cX4_readName 22 = .ok (.aload_n 0, 1) := by decide +kernel
theorem dX4_readName_23 : decode cX4_readName 23 = .ok (.invokevirtual 46, 3) := by decide +kernel
theorem dX4_readName_26 : decode cX4_readName 26 = .ok (.goto 20, 3) := by decide +kernel
theorem dX4_readName_29 : decode cX4_readName 29 = .ok (.aload_n 0, 1) := by decide +kernel
theorem dX4_readName_30 : decode cX4_readName 30 = .ok (.dup, 1) := by decide +kernel
theorem dX4_readName_31 : decode cX4_readName 31 = .ok (.getfield 35, 3) := by decide +kernel
theorem dX4_readName_34 : decode cX4_readName 34 = .ok (.iconst 1, 1) := by decide +kernel
theorem dX4_readName_35 : decode cX4_readName 35 = .ok (.iadd, 1) := by decide +kernel
theorem dX4_readName_36 : decode cX4_readName 36 = .ok (.putfield 35, 3) := by decide +kernel
theorem dX4_readName_39 : decode cX4_readName 39 = .ok (.aload_n 0, 1) := by decide +kernel
theorem dX4_readName_40 : decode cX4_readName 40 = .ok (.iconst (-1), 1) := by decide +kernel
theorem dX4_readName_41 : decode cX4_readName 41 = .ok (.iload_n 2, 1) := by decide +kernel
theorem dX4_readName_42 : decode cX4_readName 42 = .ok (.isub, 1) := by decide +kernel
theorem dX4_readName_43 : decode cX4_readName 43 = .ok (.invokevirtual 64, 3) := by decide +kernel
theorem dX4_readName_46 : decode cX4_readName 46 = .ok (.return_, 1) := by decide +kernel
theorem dX4_readNumber_0 : decode cX4_readNumber 0 = .ok (.iconst 0, 1) := by decide +kernel
theorem dX4_readNumber_1 : decode cX4_readNumber 1 = .ok (.istore_n 1, 1) := by decide +kernel
theorem dX4_readNumber_2 : decode cX4_readNumber 2 = .ok (.iconst 0, 1) := by decide +kernel
theorem dX4_readNumber_3 : decode cX4_readNumber 3 = .ok (.istore_n 2, 1) := by decide +kernel
theorem dX4_readNumber_4 : decode cX4_readNumber 4 = .ok (.iload_n 2, 1) := by decide +kernel
theorem dX4_readNumber_5 : decode cX4_readNumber 5 = .ok (.iconst 4, 1) := by decide +kernel
theorem dX4_readNumber_6 : decode cX4_readNumber 6 = .ok (.if_icmp .ge 42, 3) := by decide +kernel
theorem dX4_readNumber_9 : decode cX4_readNumber 9 = .ok (.aload_n 0, 1) := by decide +kernel
theorem dX4_readNumber_10 : decode cX4_readNumber 10 = .ok (.invokevirtual 60, 3) := by decide +kernel
theorem dX4_readNumber_13 : decode cX4_readNumber 13 = .ok (.invokestatic 79, 3) := by decide +kernel
theorem dX4_readNumber_16 : decode cX4_readNumber 16 = .ok (.ifCond .eq 32, 3) := by decide +kernel
theorem dX4_readNumber_19 : decode cX4_readNumber 19 = .ok (.iload_n 1, 1) := by decide +kernel
theorem dX4_readNumber_20 : decode cX4_readNumber 20 = .ok (.bipush 10, 2) := by decide +kernel
theorem dX4_readNumber_22 : decode cX4_readNumber 22 = .ok (.imul, 1) := by decide +kernel
theorem dX4_readNumber_23 : decode cX4_readNumber 23 = .ok (.aload_n 0, 1) := by decide +kernel
theorem dX4_readNumber_24 : decode cX4_readNumber 24 = .ok (.invokevirtual 60, 3) := by decide +kernel
theorem dX4_readNumber_27 : decode cX4_readNumber 27 = .ok (.iadd, 1) := by decide +kernel
theorem dX4_readNumber_28 : decode cX4_readNumber 28 = .ok (.bipush 48, 2) := by decide +kernel
theorem dX4_readNumber_30 : decode cX4_readNumber 30 = .ok (.isub, 1) := by decide +kernel
theorem dX4_readNumber_31 : decode cX4_readNumber 31 = .ok (.istore_n 1, 1) := by decide +kernel
theorem dX4_readNumber_32 : decode cX4_readNumber 32 = .ok (.aload_n 0, 1) := by decide +kernel
theorem dX4_readNumber_33 : decode cX4_readNumber 33 = .ok (.dup, 1) := by decide +kernel
theorem dX4_readNumber_34 : decode cX4_readNumber 34 = .ok (.getfield 35, 3) := by decide +kernel
theorem dX4_readNumber_37 : decode cX4_readNumber 37 = .ok (.iconst 1, 1) := by decide +kernel
theorem dX4_readNumber_38 : decode cX4_readNumber 38 = .ok (.iadd, 1) := by decide +kernel
theorem dX4_readNumber_39 : decode cX4_readNumber 39 = .ok (.putfield 35, 3) := by decide +kernel
theorem dX4_readNumber_42 : decode cX4_readNumber 42 = .ok (.iinc 2 1, 3) := by decide +kernel
theorem dX4_readNumber_45 : decode cX4_readNumber 45 = .ok (.goto (-41), 3) := by decide +kernel
theorem dX4_readNumber_48 : decode cX4_readNumber 48 = .ok (.aload_n 0, 1) := by decide +kernel
theorem dX4_readNumber_49 : decode cX4_readNumber 49 = .ok (.iload_n 1, 1) := by decide +kernel
theorem dX4_readNumber_50 : decode cX4_readNumber 50 = .ok (.invokevirtual 64, 3) := by decide +kernel
theorem dX4_readNumber_53 : decode cX4_readNumber 53 = .ok (.return_, 1) := by decide +kernel
theorem dX4_isDigit_0 : decode cX4_isDigit 0 = .ok (.iload_n 0, 1) := by decide +kernel
theorem dX4_isDigit_1 : decode cX4_isDigit 1 = .ok (.bipush 48, 2) := by decide +kernel
theorem dX4_isDigit_3 : decode cX4_isDigit 3 = .ok (.if_icmp .lt 13, 3) := by decide +kernel
theorem dX4_isDigit_6 : decode cX4_isDigit 6 = .ok (.iload_n 0, 1) := by decide +kernel
theorem dX4_isDigit_7 : decode cX4_isDigit 7 = .ok (.bipush 57, 2) := by decide +kernel
theorem dX4_isDigit_9 : decode cX4_isDigit 9 = .ok (.if_icmp .gt 7, 3) := by decide +kernel
theorem dX4_isDigit_12 : decode cX4_isDigit 12 = .ok (.iconst 1, 1) := by decide +kernel
theorem dX4_isDigit_13 : decode cX4_isDigit 13 = .ok (.goto 4, 3) := by decide +kernel
theorem dX4_isDigit_16 : decode cX4_isDigit 16 = .ok (.iconst 0, 1) := by decide +kernel
theorem dX4_isDigit_17 : decode cX4_isDigit 17 = .ok (.ireturn, 1) := by decide +kernel
theorem dX5_init_0 : decode cX5_init 0 = .ok (.aload_n 0, 1) := by decide +kernel
theorem dX5_init_1 : decode cX5_init 1 = .ok (.invokespecial 3, 3) := by decide +kernel
theorem dX5_init_4 : decode cX5_init 4 = .ok (.aload_n 0, 1) := by decide +kernel
theorem dX5_init_5 : decode cX5_init 5 = .ok (.bipush 24, 2) := by decide +kernel
theorem dX5_init_7 : decode cX5_init 7 = .ok (.newarray .int, 2) := by decide +kernel
theorem dX5_init_9 : decode cX5_init 9 = .ok (.putfield 9, 3) := by decide +kernel
theorem dX5_init_12 : decode cX5_init 12 = .ok (.aload_n 0, 1) := by decide +kernel
theorem dX5_init_13 : decode cX5_init 13 = .ok (.iconst 0, 1) := by decide +kernel
theorem dX5_init_14 : decode cX5_init 14 = .ok (.putfield 15, 3) := by decide +kernel
theorem dX5_init_17 : decode cX5_init 17 = .ok (.aload_n 0, 1) := by decide +kernel
theorem dX5_init_18 : decode cX5_init 18 = .ok (.iconst 0, 1) := by decide +kernel
theorem dX5_init_19 : decode cX5_init 19 = .ok (.putfield 19, 3) := by decide +kernel
theorem dX5_init_22 : decode cX5_init 22 = .ok (.return_, 1) := by decide +kernel
theorem dX5_begin_0 : decode cX5_begin 0 = .ok (.aload_n 0, 1) := by decide +kernel
theorem dX5_begin_1 : decode cX5_begin 1 = .ok (.iload_n 1, 1) := by decide +kernel
theorem dX5_begin_2 : decode cX5_begin 2 = .ok (.putfield 15, 3) := by decide +kernel
theorem dX5_begin_5 : decode cX5_begin 5 = .ok (.aload_n 0, 1) := by decide +kernel
theorem dX5_begin_6 : decode cX5_begin 6 = .ok (.iload_n 2, 1) := by decide +kernel
theorem dX5_begin_7 : decode cX5_begin 7 = .ok (.putfield 19, 3) := by decide +kernel
theorem dX5_begin_10 : decode cX5_begin 10 = .ok (.iconst 0, 1) := by decide +kernel
theorem dX5_begin_11 : decode cX5_begin 11 = .ok (.istore_n 3, 1) := by decide +kernel
theorem dX5_begin_12 : decode cX5_begin 12 = .ok (.iload_n 3, 1) := by decide +kernel
theorem dX5_begin_13 : decode cX5_begin 13 = .ok (.bipush 24, 2) := by decide +kernel
theorem dX5_begin_15 : decode cX5_begin 15 = .ok (.if_icmp .ge 16, 3) := by decide +kernel
theorem dX5_begin_18 : decode cX5_begin 18 = .ok (.aload_n 0, 1) := by decide +kernel
theorem dX5_begin_19 : decode cX5_begin 19 = .ok (.getfield 9, 3) := by decide +kernel
theorem dX5_begin_22 : decode cX5_begin 22 = .ok (.iload_n 3, 1) := by decide +kernel
theorem dX5_begin_23 : decode cX5_begin 23 = .ok (.iconst 0, 1) := by decide +kernel
theorem dX5_begin_24 : decode cX5_begin 24 = .ok (.iastore, 1) := by decide +kernel
theorem dX5_begin_25 : decode cX5_begin 25 = .ok (.iinc 3 1, 3) := by decide +kernel
theorem dX5_begin_28 : decode cX5_begin 28 = .ok (.goto (-16), 3) := by decide +kernel
theorem dX5_begin_31 : decode cX5_begin 31 = .ok (.return_, 1) := by decide +kernel
theorem dX5_isMissing_0 : decode cX5_isMissing 0 = .ok (.aload_n 0, 1) := by decide +kernel
theorem dX5_isMissing_1 : decode cX5_isMissing 1 = .ok (.getfield 15, 3) := by decide +kernel
theorem dX5_isMissing_4 : decode cX5_isMissing 4 = .ok (.ifCond .ne 7, 3) := by decide +kernel
theorem dX5_isMissing_7 : decode cX5_isMissing 7 = .ok (.iconst 1, 1) := by decide +kernel
theorem dX5_isMissing_8 : decode cX5_isMissing 8 = .ok (.goto 4, 3) := by decide +kernel
theorem dX5_isMissing_11 : decode cX5_isMissing 11 = .ok (.iconst 0, 1) := by decide +kernel
theorem dX5_isMissing_12 : decode cX5_isMissing 12 = .ok (.ireturn, 1) := by decide +kernel
theorem dX5_lowest_0 : decode cX5_lowest 0 = .ok (.aload_n 0, 1) := by decide +kernel
theorem dX5_lowest_1 : decode cX5_lowest 1 = .ok (.getfield 15, 3) := by decide +kernel
theorem dX5_lowest_4 : decode cX5_lowest 4 = .ok (.bipush 8, 2) := by decide +kernel
theorem dX5_lowest_6 : decode cX5_lowest 6 = .ok (.if_icmp .ne 6, 3) := by decide +kernel
theorem dX5_lowest_9 : decode cX5_lowest 9 = .ok (.iload_n 1, 1) := by decide +kernel
theorem dX5_lowest_10 : decode cX5_lowest 10 = .ok (.i2b, 1) := by decide +kernel
theorem dX5_lowest_11 : decode cX5_lowest 11 = .ok (.ireturn, 1) := by decide +kernel
theorem dX5_lowest_12 : decode cX5_lowest 12 = .ok (.aload_n 0, 1) := by decide +kernel
theorem dX5_lowest_13 : decode cX5_lowest 13 = .ok (.getfield 15, 3) := by decide +kernel
theorem dX5_lowest_16 : decode cX5_lowest 16 = .ok (.bipush 16, 2) := by decide +kernel
theorem dX5_lowest_18 : decode cX5_lowest 18 = .ok (.if_icmp .ne 8, 3) := by decide +kernel
theorem dX5_lowest_21 : decode cX5_lowest 21 = .ok (.iload_n 1, 1) := by decide +kernel
theorem dX5_lowest_22 : decode cX5_lowest 22 = .ok (.i2s, 1) := by decide +kernel
theorem dX5_lowest_23 : decode cX5_lowest 23 = .ok (.goto 4, 3) := by decide +kernel
theorem dX5_lowest_26 : decode cX5_lowest 26 = .ok (.iload_n 1, 1) := by decide +kernel
theorem dX5_lowest_27 : decode cX5_lowest 27 = .ok (.ireturn, 1) := by decide +kernel
theorem dX5_hasPart_0 : decode cX5_hasPart 0 = .ok (.iload_n 1, 1) := by decide +kernel
theorem dX5_hasPart_1 : decode cX5_hasPart 1 = .ok (.ifCond .lt 29, 3) := by decide +kernel
theorem dX5_hasPart_4 : decode cX5_hasPart 4 = .ok (.iload_n 2, 1) := by decide +kernel
theorem dX5_hasPart_5 : decode cX5_hasPart 5 = .ok (.ifCond .lt 25, 3) := by decide +kernel
theorem dX5_hasPart_8 : decode cX5_hasPart 8 = .ok (.iload_n 2, 1) := by decide +kernel
theorem dX5_hasPart_9 : decode cX5_hasPart 9 = .ok (.aload_n 0, 1) := by decide +kernel
theorem dX5_hasPart_10 : decode cX5_hasPart 10 = .ok (.getfield 19, 3) := by decide +kernel
theorem dX5_hasPart_13 : decode cX5_hasPart 13 = .ok (.if_icmp .gt 17, 3) := by decide +kernel
theorem dX5_hasPart_16 : decode cX5_hasPart 16 = .ok (.iload_n 1, 1) := by decide +kernel
theorem dX5_hasPart_17 : decode cX5_hasPart 17 = .ok (.aload_n 0, 1) := by decide +kernel
theorem dX5_hasPart_18 : decode cX5_hasPart 18 = .ok (.getfield 19, 3) := by decide +kernel
theorem dX5_hasPart_21 : decode cX5_hasPart 21 = .ok (.iload_n 2, 1) := by decide +kernel
theorem dX5_hasPart_22 : decode cX5_hasPart 22 = .ok (.isub, 1) := by decide +kernel
theorem dX5_hasPart_23 : decode cX5_hasPart 23 = .ok (.if_icmp .gt 7, 3) := by decide +kernel
theorem dX5_hasPart_26 : decode cX5_hasPart 26 = .ok (.iconst 1, 1) := by decide +kernel
theorem dX5_hasPart_27 : decode cX5_hasPart 27 = .ok (.goto 4, 3) := by decide +kernel
theorem dX5_hasPart_30 : decode cX5_hasPart 30 = .ok (.iconst 0, 1) := by decide +kernel
theorem dX5_hasPart_31 : decode cX5_hasPart 31 = .ok (.ireturn, 1) := by decide +kernel
theorem dX5_tellsHolders_0 : decode cX5_tellsHolders 0 = .ok (.iconst 0, 1) := by decide +kernel
theorem dX5_tellsHolders_1 : decode cX5_tellsHolders 1 = .ok (.istore_n 2, 1) := by decide +kernel
theorem dX5_tellsHolders_2 : decode cX5_tellsHolders 2 = .ok (.iload_n 2, 1) := by decide +kernel
theorem dX5_tellsHolders_3 : decode cX5_tellsHolders 3 = .ok (.aload_n 0, 1) := by decide +kernel
theorem dX5_tellsHolders_4 : decode cX5_tellsHolders 4 = .ok (.getfield 19, 3) := by decide +kernel
theorem dX5_tellsHolders_7 : decode cX5_tellsHolders 7 = .ok (.if_icmp .ge 43, 3) := by decide +kernel
theorem dX5_tellsHolders_10 : decode cX5_tellsHolders 10 = .ok (.iload_n 2, 1) := by decide +kernel
theorem dX5_tellsHolders_11 : decode cX5_tellsHolders 11 = .ok (.aload_n 0, 1) := by decide +kernel
theorem dX5_tellsHolders_12 : decode cX5_tellsHolders 12 = .ok (.getfield 9, 3) := by decide +kernel
theorem dX5_tellsHolders_15 : decode cX5_tellsHolders 15 = .ok (.arraylength, 1) := by decide +kernel
theorem dX5_tellsHolders_16 : decode cX5_tellsHolders 16 = .ok (.if_icmp .ge 34, 3) := by decide +kernel
theorem dX5_tellsHolders_19 : decode cX5_tellsHolders 19 = .ok (.aload_n 1, 1) := by decide +kernel
theorem dX5_tellsHolders_20 : decode cX5_tellsHolders 20 = .ok (.iload_n 2, 1) := by decide +kernel
theorem dX5_tellsHolders_21 : decode cX5_tellsHolders 21 = .ok (.invokevirtual 22, 3) := by decide +kernel
theorem dX5_tellsHolders_24 : decode cX5_tellsHolders 24 = .ok (.ifCond .eq 18, 3) := by decide +kernel
theorem dX5_tellsHolders_27 : decode cX5_tellsHolders 27 = .ok (.aload_n 1, 1) := by decide +kernel
theorem dX5_tellsHolders_28 : decode cX5_tellsHolders 28 = .ok (.getfield 28, 3) := by decide +kernel
theorem dX5_tellsHolders_31 : decode cX5_tellsHolders 31 = .ok (.iload_n 2, 1) := by decide +kernel
theorem dX5_tellsHolders_32 : decode cX5_tellsHolders 32 = .ok (.iaload, 1) := by decide +kernel
theorem dX5_tellsHolders_33 : decode cX5_tellsHolders 33 = .ok (.aload_n 0, 1) := by decide +kernel
theorem dX5_tellsHolders_34 : decode cX5_tellsHolders 34 = .ok (.getfield 9, 3) := by decide +kernel
theorem dX5_tellsHolders_37 : decode cX5_tellsHolders 37 = .ok (.iload_n 2, 1) := by decide +kernel
theorem dX5_tellsHolders_38 : decode cX5_tellsHolders 38 = .ok (.iaload, 1) := by decide +kernel
theorem dX5_tellsHolders_39 : decode cX5_tellsHolders 39 = .ok (.if_icmp .eq 5, 3) := by decide +kernel
theorem dX5_tellsHolders_42 : decode cX5_tellsHolders 42 = .ok (.iconst 0, 1) := by decide +kernel
theorem dX5_tellsHolders_43 : decode cX5_tellsHolders 43 = .ok (.ireturn, 1) := by decide +kernel
theorem dX5_tellsHolders_44 : decode cX5_tellsHolders 44 = .ok (.iinc 2 1, 3) := by decide +kernel
theorem dX5_tellsHolders_47 : decode cX5_tellsHolders 47 = .ok (.goto (-45), 3) := by decide +kernel
theorem dX5_tellsHolders_50 : decode cX5_tellsHolders 50 = .ok (.iconst 1, 1) := by decide +kernel
theorem dX5_tellsHolders_51 : decode cX5_tellsHolders 51 = .ok (.ireturn, 1) := by decide +kernel
theorem dX5_giveHolders_0 : decode cX5_giveHolders 0 = .ok (.iconst 0, 1) := by decide +kernel
theorem dX5_giveHolders_1 : decode cX5_giveHolders 1 = .ok (.istore_n 2, 1) := by decide +kernel
theorem dX5_giveHolders_2 : decode cX5_giveHolders 2 = .ok (.iload_n 2, 1) := by decide +kernel
theorem dX5_giveHolders_3 : decode cX5_giveHolders 3 = .ok (.aload_n 0, 1) := by decide +kernel
theorem dX5_giveHolders_4 : decode cX5_giveHolders 4 = .ok (.getfield 19, 3) := by decide +kernel
theorem dX5_giveHolders_7 : decode cX5_giveHolders 7 = .ok (.if_icmp .ge 53, 3) := by decide +kernel
theorem dX5_giveHolders_10 : decode cX5_giveHolders 10 = .ok (.iload_n 2, 1) := by decide +kernel
theorem dX5_giveHolders_11 : decode cX5_giveHolders 11 = .ok (.aload_n 0, 1) := by decide +kernel
theorem dX5_giveHolders_12 : decode cX5_giveHolders 12 = .ok (.getfield 9, 3) := by decide +kernel
theorem dX5_giveHolders_15 : decode cX5_giveHolders 15 = .ok (.arraylength, 1) := by decide +kernel
theorem dX5_giveHolders_16 : decode cX5_giveHolders 16 = .ok (.if_icmp .ge 44, 3) := by decide +kernel
theorem dX5_giveHolders_19 : decode cX5_giveHolders 19 = .ok (.aload_n 1, 1) := by decide +kernel
theorem dX5_giveHolders_20 : decode cX5_giveHolders 20 = .ok (.iload_n 2, 1) := by decide +kernel
theorem dX5_giveHolders_21 : decode cX5_giveHolders 21 = .ok (.invokevirtual 22, 3) := by decide +kernel
theorem dX5_giveHolders_24 : decode cX5_giveHolders 24 = .ok (.ifCond .eq 16, 3) := by decide +kernel
theorem dX5_giveHolders_27 : decode cX5_giveHolders 27 = .ok (.aload_n 1, 1) := by decide +kernel
theorem dX5_giveHolders_28 : decode cX5_giveHolders 28 = .ok (.aload_n 0, 1) := by decide +kernel
theorem dX5_giveHolders_29 : decode cX5_giveHolders 29 = .ok (.getfield 9, 3) := by decide +kernel
theorem dX5_giveHolders_32 : decode cX5_giveHolders 32 = .ok (.iload_n 2, 1) := by decide +kernel
theorem dX5_giveHolders_33 : decode cX5_giveHolders 33 = .ok (.iaload, 1) := by decide +kernel
theorem dX5_giveHolders_34 : decode cX5_giveHolders 34 = .ok (.invokevirtual 31, 3) := by decide +kernel
theorem dX5_giveHolders_37 : decode cX5_giveHolders 37 = .ok (.ifCond .ne 5, 3) := by decide +kernel
theorem dX5_giveHolders_40 : decode cX5_giveHolders 40 = .ok (.iload_n 2, 1) := by decide +kernel
theorem dX5_giveHolders_41 : decode cX5_giveHolders 41 = .ok (.ireturn, 1) := by decide +kernel
theorem dX5_giveHolders_42 : decode cX5_giveHolders 42 = .ok (.aload_n 1, 1) := by decide +kernel
theorem dX5_giveHolders_43 : decode cX5_giveHolders 43 = .ok (.getfield 28, 3) := by decide +kernel
theorem dX5_giveHolders_46 : decode cX5_giveHolders 46 = .ok (.iload_n 2, 1) := by decide +kernel
theorem dX5_giveHolders_47 : decode cX5_giveHolders 47 = .ok (.aload_n 0, 1) := by decide +kernel
theorem dX5_giveHolders_48 : decode cX5_giveHolders 48 = .ok (.getfield 9, 3) := by decide +kernel
theorem dX5_giveHolders_51 : decode cX5_giveHolders 51 = .ok (.iload_n 2, 1) := by decide +kernel
theorem dX5_giveHolders_52 : decode cX5_giveHolders 52 = .ok (.iaload, 1) := by decide +kernel
theorem dX5_giveHolders_53 : decode cX5_giveHolders 53 = .ok (.iastore, 1) := by decide +kernel
theorem dX5_giveHolders_54 : decode cX5_giveHolders 54 = .ok (.iinc 2 1, 3) := by decide +kernel
theorem dX5_giveHolders_57 : decode cX5_giveHolders 57 = .ok (.goto (-55), 3) := by decide +kernel
theorem dX5_giveHolders_60 : decode cX5_giveHolders 60 = .ok (.aload_n 0, 1) := by decide +kernel
theorem dX5_giveHolders_61 : decode cX5_giveHolders 61 = .ok (.getfield 19, 3) := by decide +kernel
theorem dX5_giveHolders_64 : decode cX5_giveHolders 64 = .ok (.ireturn, 1) := by decide +kernel
theorem dX5_rightGrass_0 : decode cX5_rightGrass 0 = .ok (.iconst 0, 1) := by decide +kernel
theorem dX5_rightGrass_1 : decode cX5_rightGrass 1 = .ok (.istore_n 2, 1) := by decide +kernel
theorem dX5_rightGrass_2 : decode cX5_rightGrass 2 = .ok (.iload_n 2, 1) := by decide +kernel
theorem dX5_rightGrass_3 : decode cX5_rightGrass 3 = .ok (.aload_n 0, 1) := by decide +kernel
theorem dX5_rightGrass_4 : decode cX5_rightGrass 4 = .ok (.getfield 19, 3) := by decide +kernel
theorem dX5_rightGrass_7 : decode cX5_rightGrass 7 = .ok (.if_icmp .ge 42, 3) := by decide +kernel
theorem dX5_rightGrass_10 : decode cX5_rightGrass 10 = .ok (.iload_n 2, 1) := by decide +kernel
theorem dX5_rightGrass_11 : decode cX5_rightGrass 11 = .ok (.aload_n 0, 1) := by decide +kernel
theorem dX5_rightGrass_12 : decode cX5_rightGrass 12 = .ok (.getfield 9, 3) := by decide +kernel
theorem dX5_rightGrass_15 : decode cX5_rightGrass 15 = .ok (.arraylength, 1) := by decide +kernel
theorem dX5_rightGrass_16 : decode cX5_rightGrass 16 = .ok (.if_icmp .ge 33, 3) := by decide +kernel
theorem dX5_rightGrass_19 : decode cX5_rightGrass 19 = .ok (.iload_n 2, 1) := by decide +kernel
theorem dX5_rightGrass_20 : decode cX5_rightGrass 20 = .ok (.invokestatic 34, 3) := by decide +kernel
theorem dX5_rightGrass_23 : decode cX5_rightGrass 23 = .ok (.ifCond .eq 18, 3) := by decide +kernel
theorem dX5_rightGrass_26 : decode cX5_rightGrass 26 = .ok (.aload_n 0, 1) := by decide +kernel
theorem dX5_rightGrass_27 : decode cX5_rightGrass 27 = .ok (.getfield 9, 3) := by decide +kernel
theorem dX5_rightGrass_30 : decode cX5_rightGrass 30 = .ok (.iload_n 2, 1) := by decide +kernel
theorem dX5_rightGrass_31 : decode cX5_rightGrass 31 = .ok (.iaload, 1) := by decide +kernel
theorem dX5_rightGrass_32 : decode cX5_rightGrass 32 = .ok (.aload_n 1, 1) := by decide +kernel
theorem dX5_rightGrass_33 : decode cX5_rightGrass 33 = .ok (.getfield 37, 3) := by decide +kernel
theorem dX5_rightGrass_36 : decode cX5_rightGrass 36 = .ok (.iload_n 2, 1) := by decide +kernel
theorem dX5_rightGrass_37 : decode cX5_rightGrass 37 = .ok (.iaload, 1) := by decide +kernel
theorem dX5_rightGrass_38 : decode cX5_rightGrass 38 = .ok (.if_icmp .eq 5, 3) := by decide +kernel
theorem dX5_rightGrass_41 : decode cX5_rightGrass 41 = .ok (.iload_n 2, 1) := by decide +kernel
theorem dX5_rightGrass_42 : decode cX5_rightGrass 42 = .ok (.ireturn, 1) := by decide +kernel
theorem dX5_rightGrass_43 : decode cX5_rightGrass 43 = .ok (.iinc 2 1, 3) := by decide +kernel
theorem dX5_rightGrass_46 : decode cX5_rightGrass 46 = .ok (.goto (-44), 3) := by decide +kernel
theorem dX5_rightGrass_49 : decode cX5_rightGrass 49 = .ok (.aload_n 0, 1) := by decide +kernel
theorem dX5_rightGrass_50 : decode cX5_rightGrass 50 = .ok (.getfield 19, 3) := by decide +kernel
theorem dX5_rightGrass_53 : decode cX5_rightGrass 53 = .ok (.ireturn, 1) := by decide +kernel
theorem dX6_init_0 : decode cX6_init 0 = .ok (.aload_n 0, 1) := by decide +kernel
theorem dX6_init_1 : decode cX6_init 1 = .ok (.invokespecial 3, 3) := by decide +kernel
theorem dX6_init_4 : decode cX6_init 4 = .ok (.aload_n 0, 1) := by decide +kernel
theorem dX6_init_5 : decode cX6_init 5 = .ok (.bipush 30, 2) := by decide +kernel
theorem dX6_init_7 : decode cX6_init 7 = .ok (.newarray .int, 2) := by decide +kernel
theorem dX6_init_9 : decode cX6_init 9 = .ok (.putfield 9, 3) := by decide +kernel
theorem dX6_init_12 : decode cX6_init 12 = .ok (.return_, 1) := by decide +kernel
theorem dX6_speak_0 : decode cX6_speak 0 = .ok (.aload_n 0, 1) := by decide +kernel
theorem dX6_speak_1 : decode cX6_speak 1 = .ok (.iload_n 1, 1) := by decide +kernel
theorem dX6_speak_2 : decode cX6_speak 2 = .ok (.putfield 15, 3) := by decide +kernel
theorem dX6_speak_5 : decode cX6_speak 5 = .ok (.aload_n 0, 1) := by decide +kernel
theorem dX6_speak_6 : decode cX6_speak 6 = .ok (.iload_n 2, 1) := by decide +kernel
theorem dX6_speak_7 : decode cX6_speak 7 = .ok (.putfield 19, 3) := by decide +kernel
theorem dX6_speak_10 : decode cX6_speak 10 = .ok (.aload_n 0, 1) := by decide +kernel
theorem dX6_speak_11 : decode cX6_speak 11 = .ok (.iload_n 3, 1) := by decide +kernel
theorem dX6_speak_12 : decode cX6_speak 12 = .ok (.putfield 22, 3) := by decide +kernel
theorem dX6_speak_15 : decode cX6_speak 15 = .ok (.aload_n 0, 1) := by decide +kernel
theorem dX6_speak_16 : decode cX6_speak 16 = .ok (.iconst 0, 1) := by decide +kernel
theorem dX6_speak_17 : decode cX6_speak 17 = .ok (.putfield 25, 3) := by decide +kernel
theorem dX6_speak_20 : decode cX6_speak 20 = .ok (.aload_n 0, 1) := by decide +kernel
theorem dX6_speak_21 : decode cX6_speak 21 = .ok (.iconst 0, 1) := by decide +kernel
theorem dX6_speak_22 : decode cX6_speak 22 = .ok (.putfield 28, 3) := by decide +kernel
theorem dX6_speak_25 : decode cX6_speak 25 = .ok (.aload_n 0, 1) := by decide +kernel
theorem dX6_speak_26 : decode cX6_speak 26 = .ok (.iload 4, 2) := by decide +kernel
theorem dX6_speak_28 : decode cX6_speak 28 = .ok (.iload 5, 2) := by decide +kernel
theorem dX6_speak_30 : decode cX6_speak 30 = .ok (.iconst 0, 1) := by decide +kernel
theorem dX6_speak_31 : decode cX6_speak 31 = .ok (.invokevirtual 32, 3) := by decide +kernel
theorem dX6_speak_34 : decode cX6_speak 34 = .ok (.ireturn, 1) := by decide +kernel
theorem dX6_own_0 : decode cX6_own 0 = .ok (.aload_n 0, 1) := by decide +kernel
theorem dX6_own_1 : decode cX6_own 1 = .ok (.aload_n 0, 1) := by decide +kernel
theorem dX6_own_2 : decode cX6_own 2 = .ok (.getfield 15, 3) := by decide +kernel
theorem dX6_own_5 : decode cX6_own 5 = .ok (.iload_n 1, 1) := by decide +kernel
theorem dX6_own_6 : decode cX6_own 6 = .ok (.iload_n 2, 1) := by decide +kernel
theorem dX6_own_7 : decode cX6_own 7 = .ok (.iload_n 3, 1) := by decide +kernel
theorem dX6_own_8 : decode cX6_own 8 = .ok (.invokevirtual 36, 3) := by decide +kernel
theorem dX6_own_11 : decode cX6_own 11 = .ok (.ireturn, 1) := by decide +kernel
theorem dX6_from_0 : decode cX6_from 0 = .ok (.iload_n 1, 1) := by decide +kernel
theorem dX6_from_1 : decode cX6_from 1 = .ok (.istore 5, 2) := by decide +kernel
theorem dX6_from_3 : decode cX6_from 3 = .ok (.iconst 0, 1) := by decide +kernel
theorem dX6_from_4 : decode cX6_from 4 = .ok (.istore 6, 2) := by decide +kernel
theorem dX6_from_6 : decode cX6_from 6 = .ok (.iload 6, 2) := by decide +kernel
theorem dX6_from_8 : decode cX6_from 8 = .ok (.bipush 7, 2) := by decide +kernel
theorem dX6_from_10 : decode cX6_from 10 = .ok (.if_icmp .ge 80, 3) := by decide +kernel
theorem dX6_from_13 : decode cX6_from 13 = .ok (.iload 5, 2) := by decide +kernel
theorem dX6_from_15 : decode cX6_from 15 = .ok (.ifCond .lt 75, 3) := by decide +kernel
theorem dX6_from_18 : decode cX6_from 18 = .ok (.iload 5, 2) := by decide +kernel
theorem dX6_from_20 : decode cX6_from 20 = .ok (.bipush 7, 2) := by decide +kernel
theorem dX6_from_22 : decode cX6_from 22 = .ok (.if_icmp .ge 68, 3) := by decide +kernel
theorem dX6_from_25 : decode cX6_from 25 = .ok (.iload 5, 2) := by decide +kernel
theorem dX6_from_27 : decode cX6_from 27 = .ok (.iconst 4, 1) := by decide +kernel
theorem dX6_from_28 : decode cX6_from 28 = .ok (.imul, 1) := by decide +kernel
theorem dX6_from_29 : decode cX6_from 29 = .ok (.iload_n 2, 1) := by decide +kernel
theorem dX6_from_30 : decode cX6_from 30 = .ok (.iadd, 1) := by decide +kernel
theorem dX6_from_31 : decode cX6_from 31 = .ok (.istore 7, 2) := by decide +kernel
theorem dX6_from_33 : decode cX6_from 33 = .ok (.iload 7, 2) := by decide +kernel
theorem dX6_from_35 : decode cX6_from 35 = .ok (.ifCond .lt 41, 3) := by decide +kernel
theorem dX6_from_38 : decode cX6_from 38 = .ok (.iload 7, 2) := by decide +kernel
theorem dX6_from_40 : decode cX6_from 40 = .ok (.getstatic 40, 3) := by decide +kernel
theorem dX6_from_43 : decode cX6_from 43 = .ok (.arraylength, 1) := by decide +kernel
theorem dX6_from_44 : decode cX6_from 44 = .ok (.if_icmp .ge 32, 3) := by decide +kernel
theorem dX6_from_47 : decode cX6_from 47 = .ok (.getstatic 40, 3) := by decide +kernel
theorem dX6_from_50 : decode cX6_from 50 = .ok (.iload 7, 2) := by decide +kernel
theorem dX6_from_52 : decode cX6_from 52 = .ok (.iaload, 1) := by decide +kernel
theorem dX6_from_53 : decode cX6_from 53 = .ok (.ifCond .eq 23, 3) := by decide +kernel
theorem dX6_from_56 : decode cX6_from 56 = .ok (.aload_n 0, 1) := by decide +kernel
theorem dX6_from_57 : decode cX6_from 57 = .ok (.getstatic 40, 3) := by decide +kernel
theorem dX6_from_60 : decode cX6_from 60 = .ok (.iload 7, 2) := by decide +kernel
theorem dX6_from_62 : decode cX6_from 62 = .ok (.iaload, 1) := by decide +kernel
theorem dX6_from_63 : decode cX6_from 63 = .ok (.getstatic 43, 3) := by decide +kernel
theorem dX6_from_66 : decode cX6_from 66 = .ok (.iload 5, 2) := by decide +kernel
theorem dX6_from_68 : decode cX6_from 68 = .ok (.iaload, 1) := by decide +kernel
theorem dX6_from_69 : decode cX6_from 69 = .ok (.iload_n 3, 1) := by decide +kernel
theorem dX6_from_70 : decode cX6_from 70 = .ok (.iload 4, 2) := by decide +kernel
theorem dX6_from_72 : decode cX6_from 72 = .ok (.invokevirtual 46, 3) := by decide +kernel
theorem dX6_from_75 : decode cX6_from 75 = .ok (.ireturn, 1) := by decide +kernel
theorem dX6_from_76 : decode cX6_from 76 = .ok (.getstatic 43, 3) := by decide +kernel
theorem dX6_from_79 : decode cX6_from 79 = .ok (.iload 5, 2) := by decide +kernel
theorem dX6_from_81 : decode cX6_from 81 = .ok (.iaload, 1) := by decide +kernel
theorem dX6_from_82 : decode cX6_from 82 = .ok (.istore 5, 2) := by decide +kernel
theorem dX6_from_84 : decode cX6_from 84 = .ok (.iinc 6 1, 3) := by decide +kernel
theorem dX6_from_87 : decode cX6_from 87 = .ok (.goto (-81), 3) := by decide +kernel
theorem dX6_from_90 : decode cX6_from 90 = .ok (.iconst 0, 1) := by decide +kernel
theorem dX6_from_91 : decode cX6_from 91 = .ok (.ireturn, 1) := by decide +kernel
theorem dX6_work_0 : decode cX6_work 0 = .ok (.aload_n 0, 1) := by decide +kernel
theorem dX6_work_1 : decode cX6_work 1 = .ok (.getfield 28, 3) := by decide +kernel
theorem dX6_work_4 : decode cX6_work 4 = .ok (.ifCond .ne 10, 3) := by decide +kernel
theorem dX6_work_7 : decode cX6_work 7 = .ok (.iload 4, 2) := by decide +kernel
theorem dX6_work_9 : decode cX6_work 9 = .ok (.bipush 40, 2) := by decide +kernel
