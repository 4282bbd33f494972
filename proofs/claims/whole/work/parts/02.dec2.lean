theorem dX9_personIs_8 : decode cX9_personIs 8 = .ok (.aload_n 0, 1) := by decide +kernel
theorem dX9_personIs_9 : decode cX9_personIs 9 = .ok (.ldc 95, 2) := by decide +kernel
theorem dX9_personIs_11 : decode cX9_personIs 11 = .ok (.invokevirtual 96, 3) := by decide +kernel
theorem dX9_personIs_14 : decode cX9_personIs 14 = .ok (.ireturn, 1) := by decide +kernel
theorem dX9_personIs_15 : decode cX9_personIs 15 = .ok (.iload_n 2, 1) := by decide +kernel
theorem dX9_personIs_16 : decode cX9_personIs 16 = .ok (.tableswitch 61 0 4 #[36, 36, 43, 49, 55], 36) := by decide +kernel
theorem dX9_personIs_52 : decode cX9_personIs 52 = .ok (.aload_n 0, 1) := by decide +kernel
theorem dX9_personIs_53 : decode cX9_personIs 53 = .ok (.iload_n 1, 1) := by decide +kernel
theorem dX9_personIs_54 : decode cX9_personIs 54 = .ok (.iload_n 2, 1) := by decide +kernel
theorem dX9_personIs_55 : decode cX9_personIs 55 = .ok (.invokevirtual 75, 3) := by decide +kernel
theorem dX9_personIs_58 : decode cX9_personIs 58 = .ok (.ireturn, 1) := by decide +kernel
theorem dX9_personIs_59 : decode cX9_personIs 59 = .ok (.aload_n 0, 1) := by decide +kernel
theorem dX9_personIs_60 : decode cX9_personIs 60 = .ok (.iload_n 1, 1) := by decide +kernel
theorem dX9_personIs_61 : decode cX9_personIs 61 = .ok (.invokevirtual 78, 3) := by decide +kernel
theorem dX9_personIs_64 : decode cX9_personIs 64 = .ok (.ireturn, 1) := by decide +kernel
theorem dX9_personIs_65 : decode cX9_personIs 65 = .ok (.aload_n 0, 1) := by decide +kernel
theorem dX9_personIs_66 : decode cX9_personIs 66 = .ok (.iload_n 1, 1) := by decide +kernel
theorem dX9_personIs_67 : decode cX9_personIs 67 = .ok (.invokevirtual 103, 3) := by decide +kernel
theorem dX9_personIs_70 : decode cX9_personIs 70 = .ok (.ireturn, 1) := by decide +kernel
theorem dX9_personIs_71 : decode cX9_personIs 71 = .ok (.aload_n 0, 1) := by decide +kernel
theorem dX9_personIs_72 : decode cX9_personIs 72 = .ok (.iload_n 1, 1) := by decide +kernel
theorem dX9_personIs_73 : decode cX9_personIs 73 = .ok (.invokevirtual 106, 3) := by decide +kernel
theorem dX9_personIs_76 : decode cX9_personIs 76 = .ok (.ireturn, 1) := by decide +kernel
theorem dX9_personIs_77 : decode cX9_personIs 77 = .ok (.aload_n 0, 1) := by decide +kernel
theorem dX9_personIs_78 : decode cX9_personIs 78 = .ok (.ldc 95, 2) := by decide +kernel
theorem dX9_personIs_80 : decode cX9_personIs 80 = .ok (.invokevirtual 96, 3) := by decide +kernel
theorem dX9_personIs_83 : decode cX9_personIs 83 = .ok (.ireturn, 1) := by decide +kernel
theorem dX9_become_0 : decode cX9_become 0 = .ok (.aload_n 0, 1) := by decide +kernel
theorem dX9_become_1 : decode cX9_become 1 = .ok (.iload_n 1, 1) := by decide +kernel
theorem dX9_become_2 : decode cX9_become 2 = .ok (.invokevirtual 100, 3) := by decide +kernel
theorem dX9_become_5 : decode cX9_become 5 = .ok (.ifCond .eq 10, 3) := by decide +kernel
theorem dX9_become_8 : decode cX9_become 8 = .ok (.iload_n 2, 1) := by decide +kernel
theorem dX9_become_9 : decode cX9_become 9 = .ok (.invokestatic 92, 3) := by decide +kernel
theorem dX9_become_12 : decode cX9_become 12 = .ok (.ifCond .ne 10, 3) := by decide +kernel
theorem dX9_become_15 : decode cX9_become 15 = .ok (.aload_n 0, 1) := by decide +kernel
theorem dX9_become_16 : decode cX9_become 16 = .ok (.ldc 95, 2) := by decide +kernel
theorem dX9_become_18 : decode cX9_become 18 = .ok (.invokevirtual 96, 3) := by decide +kernel
theorem dX9_become_21 : decode cX9_become 21 = .ok (.ireturn, 1) := by decide +kernel
theorem dX9_become_22 : decode cX9_become 22 = .ok (.aload_n 0, 1) := by decide +kernel
theorem dX9_become_23 : decode cX9_become 23 = .ok (.getfield 9, 3) := by decide +kernel
theorem dX9_become_26 : decode cX9_become 26 = .ok (.bipush 15, 2) := by decide +kernel
theorem dX9_become_28 : decode cX9_become 28 = .ok (.iconst 2, 1) := by decide +kernel
theorem dX9_become_29 : decode cX9_become 29 = .ok (.iload_n 1, 1) := by decide +kernel
theorem dX9_become_30 : decode cX9_become 30 = .ok (.imul, 1) := by decide +kernel
theorem dX9_become_31 : decode cX9_become 31 = .ok (.iadd, 1) := by decide +kernel
theorem dX9_become_32 : decode cX9_become 32 = .ok (.iconst 1, 1) := by decide +kernel
theorem dX9_become_33 : decode cX9_become 33 = .ok (.iadd, 1) := by decide +kernel
theorem dX9_become_34 : decode cX9_become 34 = .ok (.iload_n 2, 1) := by decide +kernel
theorem dX9_become_35 : decode cX9_become 35 = .ok (.bipush 10, 2) := by decide +kernel
theorem dX9_become_37 : decode cX9_become 37 = .ok (.irem, 1) := by decide +kernel
theorem dX9_become_38 : decode cX9_become 38 = .ok (.iastore, 1) := by decide +kernel
theorem dX9_become_39 : decode cX9_become 39 = .ok (.aload_n 0, 1) := by decide +kernel
theorem dX9_become_40 : decode cX9_become 40 = .ok (.bipush 15, 2) := by decide +kernel
theorem dX9_become_42 : decode cX9_become 42 = .ok (.iconst 2, 1) := by decide +kernel
theorem dX9_become_43 : decode cX9_become 43 = .ok (.iload_n 1, 1) := by decide +kernel
theorem dX9_become_44 : decode cX9_become 44 = .ok (.imul, 1) := by decide +kernel
theorem dX9_become_45 : decode cX9_become 45 = .ok (.iadd, 1) := by decide +kernel
theorem dX9_become_46 : decode cX9_become 46 = .ok (.iload_n 2, 1) := by decide +kernel
theorem dX9_become_47 : decode cX9_become 47 = .ok (.bipush 10, 2) := by decide +kernel
theorem dX9_become_49 : decode cX9_become 49 = .ok (.idiv, 1) := by decide +kernel
theorem dX9_become_50 : decode cX9_become 50 = .ok (.invokevirtual 109, 3) := by decide +kernel
theorem dX9_become_53 : decode cX9_become 53 = .ok (.ireturn, 1) := by decide +kernel
theorem dX9_as_0 : decode cX9_as 0 = .ok (.aload_n 0, 1) := by decide +kernel
theorem dX9_as_1 : decode cX9_as 1 = .ok (.iload_n 1, 1) := by decide +kernel
theorem dX9_as_2 : decode cX9_as 2 = .ok (.invokevirtual 100, 3) := by decide +kernel
theorem dX9_as_5 : decode cX9_as 5 = .ok (.ifCond .eq 13, 3) := by decide +kernel
theorem dX9_as_8 : decode cX9_as 8 = .ok (.iload_n 2, 1) := by decide +kernel
theorem dX9_as_9 : decode cX9_as 9 = .ok (.iconst 0, 1) := by decide +kernel
theorem dX9_as_10 : decode cX9_as 10 = .ok (.bipush 6, 2) := by decide +kernel
theorem dX9_as_12 : decode cX9_as 12 = .ok (.invokestatic 60, 3) := by decide +kernel
theorem dX9_as_15 : decode cX9_as 15 = .ok (.ifCond .ne 10, 3) := by decide +kernel
theorem dX9_as_18 : decode cX9_as 18 = .ok (.aload_n 0, 1) := by decide +kernel
theorem dX9_as_19 : decode cX9_as 19 = .ok (.ldc 95, 2) := by decide +kernel
theorem dX9_as_21 : decode cX9_as 21 = .ok (.invokevirtual 96, 3) := by decide +kernel
theorem dX9_as_24 : decode cX9_as 24 = .ok (.ireturn, 1) := by decide +kernel
theorem dX9_as_25 : decode cX9_as 25 = .ok (.aload_n 0, 1) := by decide +kernel
theorem dX9_as_26 : decode cX9_as 26 = .ok (.iload_n 1, 1) := by decide +kernel
theorem dX9_as_27 : decode cX9_as 27 = .ok (.iconst 0, 1) := by decide +kernel
theorem dX9_as_28 : decode cX9_as 28 = .ok (.invokevirtual 75, 3) := by decide +kernel
theorem dX9_as_31 : decode cX9_as 31 = .ok (.istore_n 3, 1) := by decide +kernel
theorem dX9_as_32 : decode cX9_as 32 = .ok (.iload_n 2, 1) := by decide +kernel
theorem dX9_as_33 : decode cX9_as 33 = .ok (.ifCond .eq 28, 3) := by decide +kernel
theorem dX9_as_36 : decode cX9_as 36 = .ok (.iload_n 2, 1) := by decide +kernel
theorem dX9_as_37 : decode cX9_as 37 = .ok (.iload_n 3, 1) := by decide +kernel
theorem dX9_as_38 : decode cX9_as 38 = .ok (.if_icmp .eq 23, 3) := by decide +kernel
theorem dX9_as_41 : decode cX9_as 41 = .ok (.iload_n 2, 1) := by decide +kernel
theorem dX9_as_42 : decode cX9_as 42 = .ok (.iconst 1, 1) := by decide +kernel
theorem dX9_as_43 : decode cX9_as 43 = .ok (.if_icmp .ne 8, 3) := by decide +kernel
theorem dX9_as_46 : decode cX9_as 46 = .ok (.iload_n 3, 1) := by decide +kernel
theorem dX9_as_47 : decode cX9_as 47 = .ok (.iconst 4, 1) := by decide +kernel
theorem dX9_as_48 : decode cX9_as 48 = .ok (.if_icmp .eq 13, 3) := by decide +kernel
theorem dX9_as_51 : decode cX9_as 51 = .ok (.iload_n 2, 1) := by decide +kernel
theorem dX9_as_52 : decode cX9_as 52 = .ok (.iconst 2, 1) := by decide +kernel
theorem dX9_as_53 : decode cX9_as 53 = .ok (.if_icmp .ne 12, 3) := by decide +kernel
theorem dX9_as_56 : decode cX9_as 56 = .ok (.iload_n 3, 1) := by decide +kernel
theorem dX9_as_57 : decode cX9_as 57 = .ok (.iconst 5, 1) := by decide +kernel
theorem dX9_as_58 : decode cX9_as 58 = .ok (.if_icmp .ne 7, 3) := by decide +kernel
theorem dX9_as_61 : decode cX9_as 61 = .ok (.iconst 1, 1) := by decide +kernel
theorem dX9_as_62 : decode cX9_as 62 = .ok (.goto 4, 3) := by decide +kernel
theorem dX9_as_65 : decode cX9_as 65 = .ok (.iconst 0, 1) := by decide +kernel
theorem dX9_as_66 : decode cX9_as 66 = .ok (.istore 4, 2) := by decide +kernel
theorem dX9_as_68 : decode cX9_as 68 = .ok (.iload 4, 2) := by decide +kernel
theorem dX9_as_70 : decode cX9_as 70 = .ok (.ifCond .eq 12, 3) := by decide +kernel
theorem dX9_as_73 : decode cX9_as 73 = .ok (.aload_n 0, 1) := by decide +kernel
theorem dX9_as_74 : decode cX9_as 74 = .ok (.iload_n 1, 1) := by decide +kernel
theorem dX9_as_75 : decode cX9_as 75 = .ok (.iconst 1, 1) := by decide +kernel
theorem dX9_as_76 : decode cX9_as 76 = .ok (.invokevirtual 75, 3) := by decide +kernel
theorem dX9_as_79 : decode cX9_as 79 = .ok (.goto 9, 3) := by decide +kernel
theorem dX9_as_82 : decode cX9_as 82 = .ok (.aload_n 0, 1) := by decide +kernel
theorem dX9_as_83 : decode cX9_as 83 = .ok (.ldc 112, 2) := by decide +kernel
theorem dX9_as_85 : decode cX9_as 85 = .ok (.invokevirtual 96, 3) := by decide +kernel
theorem dX9_as_88 : decode cX9_as 88 = .ok (.ireturn, 1) := by decide +kernel
theorem dX9_gate_0 : decode cX9_gate 0 = .ok (.iload_n 1, 1) := by decide +kernel
theorem dX9_gate_1 : decode cX9_gate 1 = .ok (.iload_n 2, 1) := by decide +kernel
theorem dX9_gate_2 : decode cX9_gate 2 = .ok (.invokestatic 113, 3) := by decide +kernel
theorem dX9_gate_5 : decode cX9_gate 5 = .ok (.ifCond .eq 13, 3) := by decide +kernel
theorem dX9_gate_8 : decode cX9_gate 8 = .ok (.iload_n 3, 1) := by decide +kernel
theorem dX9_gate_9 : decode cX9_gate 9 = .ok (.iconst 0, 1) := by decide +kernel
theorem dX9_gate_10 : decode cX9_gate 10 = .ok (.bipush 9, 2) := by decide +kernel
theorem dX9_gate_12 : decode cX9_gate 12 = .ok (.invokestatic 60, 3) := by decide +kernel
theorem dX9_gate_15 : decode cX9_gate 15 = .ok (.ifCond .ne 10, 3) := by decide +kernel
theorem dX9_gate_18 : decode cX9_gate 18 = .ok (.aload_n 0, 1) := by decide +kernel
theorem dX9_gate_19 : decode cX9_gate 19 = .ok (.ldc 95, 2) := by decide +kernel
theorem dX9_gate_21 : decode cX9_gate 21 = .ok (.invokevirtual 96, 3) := by decide +kernel
theorem dX9_gate_24 : decode cX9_gate 24 = .ok (.ireturn, 1) := by decide +kernel
theorem dX9_gate_25 : decode cX9_gate 25 = .ok (.aload_n 0, 1) := by decide +kernel
theorem dX9_gate_26 : decode cX9_gate 26 = .ok (.getfield 9, 3) := by decide +kernel
theorem dX9_gate_29 : decode cX9_gate 29 = .ok (.iconst 3, 1) := by decide +kernel
theorem dX9_gate_30 : decode cX9_gate 30 = .ok (.iaload, 1) := by decide +kernel
theorem dX9_gate_31 : decode cX9_gate 31 = .ok (.istore 4, 2) := by decide +kernel
theorem dX9_gate_33 : decode cX9_gate 33 = .ok (.iload 4, 2) := by decide +kernel
theorem dX9_gate_35 : decode cX9_gate 35 = .ok (.bipush 9, 2) := by decide +kernel
theorem dX9_gate_37 : decode cX9_gate 37 = .ok (.if_icmp .ne 10, 3) := by decide +kernel
theorem dX9_gate_40 : decode cX9_gate 40 = .ok (.aload_n 0, 1) := by decide +kernel
theorem dX9_gate_41 : decode cX9_gate 41 = .ok (.ldc 99, 2) := by decide +kernel
theorem dX9_gate_43 : decode cX9_gate 43 = .ok (.invokevirtual 96, 3) := by decide +kernel
theorem dX9_gate_46 : decode cX9_gate 46 = .ok (.ireturn, 1) := by decide +kernel
theorem dX9_gate_47 : decode cX9_gate 47 = .ok (.aload_n 0, 1) := by decide +kernel
theorem dX9_gate_48 : decode cX9_gate 48 = .ok (.getfield 9, 3) := by decide +kernel
theorem dX9_gate_51 : decode cX9_gate 51 = .ok (.iconst 3, 1) := by decide +kernel
theorem dX9_gate_52 : decode cX9_gate 52 = .ok (.dup2, 1) := by decide +kernel
theorem dX9_gate_53 : decode cX9_gate 53 = .ok (.iaload, 1) := by decide +kernel
theorem dX9_gate_54 : decode cX9_gate 54 = .ok (.iconst 1, 1) := by decide +kernel
theorem dX9_gate_55 : decode cX9_gate 55 = .ok (.iadd, 1) := by decide +kernel
theorem dX9_gate_56 : decode cX9_gate 56 = .ok (.iastore, 1) := by decide +kernel
theorem dX9_gate_57 : decode cX9_gate 57 = .ok (.aload_n 0, 1) := by decide +kernel
theorem dX9_gate_58 : decode cX9_gate 58 = .ok (.iload 4, 2) := by decide +kernel
theorem dX9_gate_60 : decode cX9_gate 60 = .ok (.iconst 0, 1) := by decide +kernel
theorem dX9_gate_61 : decode cX9_gate 61 = .ok (.iload_n 1, 1) := by decide +kernel
theorem dX9_gate_62 : decode cX9_gate 62 = .ok (.invokevirtual 117, 3) := by decide +kernel
theorem dX9_gate_65 : decode cX9_gate 65 = .ok (.aload_n 0, 1) := by decide +kernel
theorem dX9_gate_66 : decode cX9_gate 66 = .ok (.iload 4, 2) := by decide +kernel
theorem dX9_gate_68 : decode cX9_gate 68 = .ok (.iconst 1, 1) := by decide +kernel
theorem dX9_gate_69 : decode cX9_gate 69 = .ok (.iload_n 2, 1) := by decide +kernel
theorem dX9_gate_70 : decode cX9_gate 70 = .ok (.invokevirtual 117, 3) := by decide +kernel
theorem dX9_gate_73 : decode cX9_gate 73 = .ok (.aload_n 0, 1) := by decide +kernel
theorem dX9_gate_74 : decode cX9_gate 74 = .ok (.iload 4, 2) := by decide +kernel
theorem dX9_gate_76 : decode cX9_gate 76 = .ok (.iconst 2, 1) := by decide +kernel
theorem dX9_gate_77 : decode cX9_gate 77 = .ok (.iload_n 3, 1) := by decide +kernel
theorem dX9_gate_78 : decode cX9_gate 78 = .ok (.invokevirtual 117, 3) := by decide +kernel
theorem dX9_gate_81 : decode cX9_gate 81 = .ok (.aload_n 0, 1) := by decide +kernel
theorem dX9_gate_82 : decode cX9_gate 82 = .ok (.iload 4, 2) := by decide +kernel
theorem dX9_gate_84 : decode cX9_gate 84 = .ok (.iconst 3, 1) := by decide +kernel
theorem dX9_gate_85 : decode cX9_gate 85 = .ok (.iconst (-1), 1) := by decide +kernel
theorem dX9_gate_86 : decode cX9_gate 86 = .ok (.invokevirtual 117, 3) := by decide +kernel
theorem dX9_gate_89 : decode cX9_gate 89 = .ok (.iload 4, 2) := by decide +kernel
theorem dX9_gate_91 : decode cX9_gate 91 = .ok (.ireturn, 1) := by decide +kernel
theorem dX9_gateIs_0 : decode cX9_gateIs 0 = .ok (.aload_n 0, 1) := by decide +kernel
theorem dX9_gateIs_1 : decode cX9_gateIs 1 = .ok (.iload_n 1, 1) := by decide +kernel
theorem dX9_gateIs_2 : decode cX9_gateIs 2 = .ok (.invokevirtual 121, 3) := by decide +kernel
theorem dX9_gateIs_5 : decode cX9_gateIs 5 = .ok (.ifCond .eq 21, 3) := by decide +kernel
theorem dX9_gateIs_8 : decode cX9_gateIs 8 = .ok (.iload_n 2, 1) := by decide +kernel
theorem dX9_gateIs_9 : decode cX9_gateIs 9 = .ok (.iconst 0, 1) := by decide +kernel
theorem dX9_gateIs_10 : decode cX9_gateIs 10 = .ok (.iconst 3, 1) := by decide +kernel
theorem dX9_gateIs_11 : decode cX9_gateIs 11 = .ok (.invokestatic 60, 3) := by decide +kernel
theorem dX9_gateIs_14 : decode cX9_gateIs 14 = .ok (.ifCond .eq 12, 3) := by decide +kernel
theorem dX9_gateIs_17 : decode cX9_gateIs 17 = .ok (.aload_n 0, 1) := by decide +kernel
theorem dX9_gateIs_18 : decode cX9_gateIs 18 = .ok (.iload_n 1, 1) := by decide +kernel
theorem dX9_gateIs_19 : decode cX9_gateIs 19 = .ok (.iload_n 2, 1) := by decide +kernel
theorem dX9_gateIs_20 : decode cX9_gateIs 20 = .ok (.invokevirtual 68, 3) := by decide +kernel
theorem dX9_gateIs_23 : decode cX9_gateIs 23 = .ok (.goto 9, 3) := by decide +kernel
theorem dX9_gateIs_26 : decode cX9_gateIs 26 = .ok (.aload_n 0, 1) := by decide +kernel
theorem dX9_gateIs_27 : decode cX9_gateIs 27 = .ok (.ldc 95, 2) := by decide +kernel
theorem dX9_gateIs_29 : decode cX9_gateIs 29 = .ok (.invokevirtual 96, 3) := by decide +kernel
theorem dX9_gateIs_32 : decode cX9_gateIs 32 = .ok (.ireturn, 1) := by decide +kernel
theorem dX9_hold_0 : decode cX9_hold 0 = .ok (.aload_n 0, 1) := by decide +kernel
theorem dX9_hold_1 : decode cX9_hold 1 = .ok (.iload_n 1, 1) := by decide +kernel
theorem dX9_hold_2 : decode cX9_hold 2 = .ok (.invokevirtual 121, 3) := by decide +kernel
theorem dX9_hold_5 : decode cX9_hold 5 = .ok (.ifCond .eq 20, 3) := by decide +kernel
theorem dX9_hold_8 : decode cX9_hold 8 = .ok (.iload_n 2, 1) := by decide +kernel
theorem dX9_hold_9 : decode cX9_hold 9 = .ok (.iconst (-1), 1) := by decide +kernel
theorem dX9_hold_10 : decode cX9_hold 10 = .ok (.if_icmp .eq 11, 3) := by decide +kernel
theorem dX9_hold_13 : decode cX9_hold 13 = .ok (.aload_n 0, 1) := by decide +kernel
theorem dX9_hold_14 : decode cX9_hold 14 = .ok (.iload_n 2, 1) := by decide +kernel
theorem dX9_hold_15 : decode cX9_hold 15 = .ok (.invokevirtual 100, 3) := by decide +kernel
theorem dX9_hold_18 : decode cX9_hold 18 = .ok (.ifCond .eq 7, 3) := by decide +kernel
theorem dX9_hold_21 : decode cX9_hold 21 = .ok (.iconst 1, 1) := by decide +kernel
theorem dX9_hold_22 : decode cX9_hold 22 = .ok (.goto 4, 3) := by decide +kernel
theorem dX9_hold_25 : decode cX9_hold 25 = .ok (.iconst 0, 1) := by decide +kernel
theorem dX9_hold_26 : decode cX9_hold 26 = .ok (.istore_n 3, 1) := by decide +kernel
theorem dX9_hold_27 : decode cX9_hold 27 = .ok (.iload_n 3, 1) := by decide +kernel
theorem dX9_hold_28 : decode cX9_hold 28 = .ok (.ifCond .eq 19, 3) := by decide +kernel
theorem dX9_hold_31 : decode cX9_hold 31 = .ok (.aload_n 0, 1) := by decide +kernel
theorem dX9_hold_32 : decode cX9_hold 32 = .ok (.bipush 27, 2) := by decide +kernel
theorem dX9_hold_34 : decode cX9_hold 34 = .ok (.iconst 4, 1) := by decide +kernel
theorem dX9_hold_35 : decode cX9_hold 35 = .ok (.iload_n 1, 1) := by decide +kernel
theorem dX9_hold_36 : decode cX9_hold 36 = .ok (.imul, 1) := by decide +kernel
theorem dX9_hold_37 : decode cX9_hold 37 = .ok (.iadd, 1) := by decide +kernel
theorem dX9_hold_38 : decode cX9_hold 38 = .ok (.iconst 3, 1) := by decide +kernel
theorem dX9_hold_39 : decode cX9_hold 39 = .ok (.iadd, 1) := by decide +kernel
theorem dX9_hold_40 : decode cX9_hold 40 = .ok (.iload_n 2, 1) := by decide +kernel
theorem dX9_hold_41 : decode cX9_hold 41 = .ok (.invokevirtual 109, 3) := by decide +kernel
theorem dX9_hold_44 : decode cX9_hold 44 = .ok (.goto 9, 3) := by decide +kernel
theorem dX9_hold_47 : decode cX9_hold 47 = .ok (.aload_n 0, 1) := by decide +kernel
theorem dX9_hold_48 : decode cX9_hold 48 = .ok (.ldc 95, 2) := by decide +kernel
theorem dX9_hold_50 : decode cX9_hold 50 = .ok (.invokevirtual 96, 3) := by decide +kernel
theorem dX9_hold_53 : decode cX9_hold 53 = .ok (.ireturn, 1) := by decide +kernel
theorem dX9_pass_0 : decode cX9_pass 0 = .ok (.aload_n 0, 1) := by decide +kernel
theorem dX9_pass_1 : decode cX9_pass 1 = .ok (.iload_n 1, 1) := by decide +kernel
theorem dX9_pass_2 : decode cX9_pass 2 = .ok (.invokevirtual 100, 3) := by decide +kernel
theorem dX9_pass_5 : decode cX9_pass 5 = .ok (.ifCond .eq 16, 3) := by decide +kernel
theorem dX9_pass_8 : decode cX9_pass 8 = .ok (.aload_n 0, 1) := by decide +kernel
theorem dX9_pass_9 : decode cX9_pass 9 = .ok (.iload_n 2, 1) := by decide +kernel
theorem dX9_pass_10 : decode cX9_pass 10 = .ok (.invokevirtual 100, 3) := by decide +kernel
theorem dX9_pass_13 : decode cX9_pass 13 = .ok (.ifCond .eq 8, 3) := by decide +kernel
theorem dX9_pass_16 : decode cX9_pass 16 = .ok (.iload_n 1, 1) := by decide +kernel
theorem dX9_pass_17 : decode cX9_pass 17 = .ok (.iload_n 2, 1) := by decide +kernel
theorem dX9_pass_18 : decode cX9_pass 18 = .ok (.if_icmp .ne 10, 3) := by decide +kernel
theorem dX9_pass_21 : decode cX9_pass 21 = .ok (.aload_n 0, 1) := by decide +kernel
theorem dX9_pass_22 : decode cX9_pass 22 = .ok (.ldc 95, 2) := by decide +kernel
theorem dX9_pass_24 : decode cX9_pass 24 = .ok (.invokevirtual 96, 3) := by decide +kernel
theorem dX9_pass_27 : decode cX9_pass 27 = .ok (.ireturn, 1) := by decide +kernel
theorem dX9_pass_28 : decode cX9_pass 28 = .ok (.iconst 0, 1) := by decide +kernel
theorem dX9_pass_29 : decode cX9_pass 29 = .ok (.istore_n 3, 1) := by decide +kernel
theorem dX9_pass_30 : decode cX9_pass 30 = .ok (.iconst 0, 1) := by decide +kernel
theorem dX9_pass_31 : decode cX9_pass 31 = .ok (.istore 4, 2) := by decide +kernel
theorem dX9_pass_33 : decode cX9_pass 33 = .ok (.iload 4, 2) := by decide +kernel
theorem dX9_pass_35 : decode cX9_pass 35 = .ok (.aload_n 0, 1) := by decide +kernel
theorem dX9_pass_36 : decode cX9_pass 36 = .ok (.getfield 9, 3) := by decide +kernel
theorem dX9_pass_39 : decode cX9_pass 39 = .ok (.iconst 3, 1) := by decide +kernel
theorem dX9_pass_40 : decode cX9_pass 40 = .ok (.iaload, 1) := by decide +kernel
theorem dX9_pass_41 : decode cX9_pass 41 = .ok (.if_icmp .ge 31, 3) := by decide +kernel
theorem dX9_pass_44 : decode cX9_pass 44 = .ok (.aload_n 0, 1) := by decide +kernel
theorem dX9_pass_45 : decode cX9_pass 45 = .ok (.iload 4, 2) := by decide +kernel
theorem dX9_pass_47 : decode cX9_pass 47 = .ok (.iconst 3, 1) := by decide +kernel
theorem dX9_pass_48 : decode cX9_pass 48 = .ok (.invokevirtual 68, 3) := by decide +kernel
theorem dX9_pass_51 : decode cX9_pass 51 = .ok (.iload_n 1, 1) := by decide +kernel
theorem dX9_pass_52 : decode cX9_pass 52 = .ok (.if_icmp .ne 14, 3) := by decide +kernel
theorem dX9_pass_55 : decode cX9_pass 55 = .ok (.aload_n 0, 1) := by decide +kernel
theorem dX9_pass_56 : decode cX9_pass 56 = .ok (.iload 4, 2) := by decide +kernel
theorem dX9_pass_58 : decode cX9_pass 58 = .ok (.iconst 3, 1) := by decide +kernel
theorem dX9_pass_59 : decode cX9_pass 59 = .ok (.iload_n 2, 1) := by decide +kernel
theorem dX9_pass_60 : decode cX9_pass 60 = .ok (.invokevirtual 117, 3) := by decide +kernel
theorem dX9_pass_63 : decode cX9_pass 63 = .ok (.iinc 3 1, 3) := by decide +kernel
theorem dX9_pass_66 : decode cX9_pass 66 = .ok (.iinc 4 1, 3) := by decide +kernel
theorem dX9_pass_69 : decode cX9_pass 69 = .ok (.goto (-36), 3) := by decide +kernel
theorem dX9_pass_72 : decode cX9_pass 72 = .ok (.iload_n 3, 1) := by decide +kernel
theorem dX9_pass_73 : decode cX9_pass 73 = .ok (.ireturn, 1) := by decide +kernel
theorem dX9_stock_0 : decode cX9_stock 0 = .ok (.iload_n 1, 1) := by decide +kernel
theorem dX9_stock_1 : decode cX9_stock 1 = .ok (.invokestatic 64, 3) := by decide +kernel
theorem dX9_stock_4 : decode cX9_stock 4 = .ok (.ifCond .ne 10, 3) := by decide +kernel
theorem dX9_stock_7 : decode cX9_stock 7 = .ok (.aload_n 0, 1) := by decide +kernel
theorem dX9_stock_8 : decode cX9_stock 8 = .ok (.ldc 95, 2) := by decide +kernel
theorem dX9_stock_10 : decode cX9_stock 10 = .ok (.invokevirtual 96, 3) := by decide +kernel
theorem dX9_stock_13 : decode cX9_stock 13 = .ok (.ireturn, 1) := by decide +kernel
theorem dX9_stock_14 : decode cX9_stock 14 = .ok (.aload_n 0, 1) := by decide +kernel
theorem dX9_stock_15 : decode cX9_stock 15 = .ok (.getfield 9, 3) := by decide +kernel
theorem dX9_stock_18 : decode cX9_stock 18 = .ok (.iconst 4, 1) := by decide +kernel
theorem dX9_stock_19 : decode cX9_stock 19 = .ok (.iaload, 1) := by decide +kernel
theorem dX9_stock_20 : decode cX9_stock 20 = .ok (.istore_n 2, 1) := by decide +kernel
theorem dX9_stock_21 : decode cX9_stock 21 = .ok (.iload_n 2, 1) := by decide +kernel
theorem dX9_stock_22 : decode cX9_stock 22 = .ok (.bipush 6, 2) := by decide +kernel
theorem dX9_stock_24 : decode cX9_stock 24 = .ok (.if_icmp .ne 10, 3) := by decide +kernel
theorem dX9_stock_27 : decode cX9_stock 27 = .ok (.aload_n 0, 1) := by decide +kernel
theorem dX9_stock_28 : decode cX9_stock 28 = .ok (.ldc 99, 2) := by decide +kernel
theorem dX9_stock_30 : decode cX9_stock 30 = .ok (.invokevirtual 96, 3) := by decide +kernel
theorem dX9_stock_33 : decode cX9_stock 33 = .ok (.ireturn, 1) := by decide +kernel
theorem dX9_stock_34 : decode cX9_stock 34 = .ok (.aload_n 0, 1) := by decide +kernel
theorem dX9_stock_35 : decode cX9_stock 35 = .ok (.getfield 9, 3) := by decide +kernel
theorem dX9_stock_38 : decode cX9_stock 38 = .ok (.iconst 4, 1) := by decide +kernel
theorem dX9_stock_39 : decode cX9_stock 39 = .ok (.dup2, 1) := by decide +kernel
theorem dX9_stock_40 : decode cX9_stock 40 = .ok (.iaload, 1) := by decide +kernel
theorem dX9_stock_41 : decode cX9_stock 41 = .ok (.iconst 1, 1) := by decide +kernel
theorem dX9_stock_42 : decode cX9_stock 42 = .ok (.iadd, 1) := by decide +kernel
theorem dX9_stock_43 : decode cX9_stock 43 = .ok (.iastore, 1) := by decide +kernel
theorem dX9_stock_44 : decode cX9_stock 44 = .ok (.aload_n 0, 1) := by decide +kernel
theorem dX9_stock_45 : decode cX9_stock 45 = .ok (.getfield 9, 3) := by decide +kernel
theorem dX9_stock_48 : decode cX9_stock 48 = .ok (.bipush 63, 2) := by decide +kernel
theorem dX9_stock_50 : decode cX9_stock 50 = .ok (.iload_n 2, 1) := by decide +kernel
theorem dX9_stock_51 : decode cX9_stock 51 = .ok (.iadd, 1) := by decide +kernel
theorem dX9_stock_52 : decode cX9_stock 52 = .ok (.iload_n 1, 1) := by decide +kernel
theorem dX9_stock_53 : decode cX9_stock 53 = .ok (.iastore, 1) := by decide +kernel
theorem dX9_stock_54 : decode cX9_stock 54 = .ok (.iload_n 2, 1) := by decide +kernel
theorem dX9_stock_55 : decode cX9_stock 55 = .ok (.ireturn, 1) := by decide +kernel
theorem dX9_stockAt_0 : decode cX9_stockAt 0 = .ok (.iload_n 1, 1) := by decide +kernel
theorem dX9_stockAt_1 : decode cX9_stockAt 1 = .ok (.iconst 0, 1) := by decide +kernel
theorem dX9_stockAt_2 : decode cX9_stockAt 2 = .ok (.aload_n 0, 1) := by decide +kernel
theorem dX9_stockAt_3 : decode cX9_stockAt 3 = .ok (.getfield 9, 3) := by decide +kernel
theorem dX9_stockAt_6 : decode cX9_stockAt 6 = .ok (.iconst 4, 1) := by decide +kernel
theorem dX9_stockAt_7 : decode cX9_stockAt 7 = .ok (.iaload, 1) := by decide +kernel
theorem dX9_stockAt_8 : decode cX9_stockAt 8 = .ok (.iconst 1, 1) := by decide +kernel
theorem dX9_stockAt_9 : decode cX9_stockAt 9 = .ok (.isub, 1) := by decide +kernel
theorem dX9_stockAt_10 : decode cX9_stockAt 10 = .ok (.invokestatic 60, 3) := by decide +kernel
theorem dX9_stockAt_13 : decode cX9_stockAt 13 = .ok (.ifCond .eq 15, 3) := by decide +kernel
theorem dX9_stockAt_16 : decode cX9_stockAt 16 = .ok (.aload_n 0, 1) := by decide +kernel
theorem dX9_stockAt_17 : decode cX9_stockAt 17 = .ok (.getfield 9, 3) := by decide +kernel
theorem dX9_stockAt_20 : decode cX9_stockAt 20 = .ok (.bipush 63, 2) := by decide +kernel
theorem dX9_stockAt_22 : decode cX9_stockAt 22 = .ok (.iload_n 1, 1) := by decide +kernel
theorem dX9_stockAt_23 : decode cX9_stockAt 23 = .ok (.iadd, 1) := by decide +kernel
theorem dX9_stockAt_24 : decode cX9_stockAt 24 = .ok (.iaload, 1) := by decide +kernel
theorem dX9_stockAt_25 : decode cX9_stockAt 25 = .ok (.goto 9, 3) := by decide +kernel
theorem dX9_stockAt_28 : decode cX9_stockAt 28 = .ok (.aload_n 0, 1) := by decide +kernel
theorem dX9_stockAt_29 : decode cX9_stockAt 29 = .ok (.ldc 95, 2) := by decide +kernel
theorem dX9_stockAt_31 : decode cX9_stockAt 31 = .ok (.invokevirtual 96, 3) := by decide +kernel
theorem dX9_stockAt_34 : decode cX9_stockAt 34 = .ok (.ireturn, 1) := by decide +kernel
theorem dX9_grass_0 : decode cX9_grass 0 = .ok (.iload_n 1, 1) := by decide +kernel
theorem dX9_grass_1 : decode cX9_grass 1 = .ok (.invokestatic 64, 3) := by decide +kernel
theorem dX9_grass_4 : decode cX9_grass 4 = .ok (.ifCond .eq 25, 3) := by decide +kernel
theorem dX9_grass_7 : decode cX9_grass 7 = .ok (.iload_n 2, 1) := by decide +kernel
theorem dX9_grass_8 : decode cX9_grass 8 = .ok (.iconst 0, 1) := by decide +kernel
theorem dX9_grass_9 : decode cX9_grass 9 = .ok (.bipush 99, 2) := by decide +kernel
theorem dX9_grass_11 : decode cX9_grass 11 = .ok (.invokestatic 60, 3) := by decide +kernel
theorem dX9_grass_14 : decode cX9_grass 14 = .ok (.ifCond .eq 15, 3) := by decide +kernel
theorem dX9_grass_17 : decode cX9_grass 17 = .ok (.aload_n 0, 1) := by decide +kernel
theorem dX9_grass_18 : decode cX9_grass 18 = .ok (.bipush 8, 2) := by decide +kernel
theorem dX9_grass_20 : decode cX9_grass 20 = .ok (.iload_n 1, 1) := by decide +kernel
theorem dX9_grass_21 : decode cX9_grass 21 = .ok (.iadd, 1) := by decide +kernel
theorem dX9_grass_22 : decode cX9_grass 22 = .ok (.iload_n 2, 1) := by decide +kernel
theorem dX9_grass_23 : decode cX9_grass 23 = .ok (.invokevirtual 109, 3) := by decide +kernel
theorem dX9_grass_26 : decode cX9_grass 26 = .ok (.goto 9, 3) := by decide +kernel
theorem dX9_grass_29 : decode cX9_grass 29 = .ok (.aload_n 0, 1) := by decide +kernel
theorem dX9_grass_30 : decode cX9_grass 30 = .ok (.ldc 95, 2) := by decide +kernel
theorem dX9_grass_32 : decode cX9_grass 32 = .ok (.invokevirtual 96, 3) := by decide +kernel
theorem dX9_grass_35 : decode cX9_grass 35 = .ok (.ireturn, 1) := by decide +kernel
theorem dX9_feed_0 : decode cX9_feed 0 = .ok (.iload_n 3, 1) := by decide +kernel
theorem dX9_feed_1 : decode cX9_feed 1 = .ok (.iconst 1, 1) := by decide +kernel
theorem dX9_feed_2 : decode cX9_feed 2 = .ok (.bipush 8, 2) := by decide +kernel
theorem dX9_feed_4 : decode cX9_feed 4 = .ok (.invokestatic 60, 3) := by decide +kernel
theorem dX9_feed_7 : decode cX9_feed 7 = .ok (.ifCond .ne 10, 3) := by decide +kernel
theorem dX9_feed_10 : decode cX9_feed 10 = .ok (.aload_n 0, 1) := by decide +kernel
theorem dX9_feed_11 : decode cX9_feed 11 = .ok (.ldc 95, 2) := by decide +kernel
theorem dX9_feed_13 : decode cX9_feed 13 = .ok (.invokevirtual 96, 3) := by decide +kernel
theorem dX9_feed_16 : decode cX9_feed 16 = .ok (.ireturn, 1) := by decide +kernel
theorem dX9_feed_17 : decode cX9_feed 17 = .ok (.aload_n 0, 1) := by decide +kernel
theorem dX9_feed_18 : decode cX9_feed 18 = .ok (.getfield 9, 3) := by decide +kernel
theorem dX9_feed_21 : decode cX9_feed 21 = .ok (.bipush 6, 2) := by decide +kernel
theorem dX9_feed_23 : decode cX9_feed 23 = .ok (.iaload, 1) := by decide +kernel
theorem dX9_feed_24 : decode cX9_feed 24 = .ok (.iload_n 3, 1) := by decide +kernel
theorem dX9_feed_25 : decode cX9_feed 25 = .ok (.iadd, 1) := by decide +kernel
theorem dX9_feed_26 : decode cX9_feed 26 = .ok (.bipush 60, 2) := by decide +kernel
theorem dX9_feed_28 : decode cX9_feed 28 = .ok (.if_icmp .le 10, 3) := by decide +kernel
theorem dX9_feed_31 : decode cX9_feed 31 = .ok (.aload_n 0, 1) := by decide +kernel
theorem dX9_feed_32 : decode cX9_feed 32 = .ok (.ldc 99, 2) := by decide +kernel
theorem dX9_feed_34 : decode cX9_feed 34 = .ok (.invokevirtual 96, 3) := by decide +kernel
theorem dX9_feed_37 : decode cX9_feed 37 = .ok (.ireturn, 1) := by decide +kernel
theorem dX9_feed_38 : decode cX9_feed 38 = .ok (.iconst 0, 1) := by decide +kernel
theorem dX9_feed_39 : decode cX9_feed 39 = .ok (.istore 4, 2) := by decide +kernel
theorem dX9_feed_41 : decode cX9_feed 41 = .ok (.iload 4, 2) := by decide +kernel
theorem dX9_feed_43 : decode cX9_feed 43 = .ok (.iload_n 3, 1) := by decide +kernel
theorem dX9_feed_44 : decode cX9_feed 44 = .ok (.if_icmp .ge 47, 3) := by decide +kernel
theorem dX9_feed_47 : decode cX9_feed 47 = .ok (.aload_n 0, 1) := by decide +kernel
theorem dX9_feed_48 : decode cX9_feed 48 = .ok (.getfield 9, 3) := by decide +kernel
theorem dX9_feed_51 : decode cX9_feed 51 = .ok (.bipush 69, 2) := by decide +kernel
theorem dX9_feed_53 : decode cX9_feed 53 = .ok (.aload_n 0, 1) := by decide +kernel
theorem dX9_feed_54 : decode cX9_feed 54 = .ok (.getfield 9, 3) := by decide +kernel
theorem dX9_feed_57 : decode cX9_feed 57 = .ok (.bipush 6, 2) := by decide +kernel
theorem dX9_feed_59 : decode cX9_feed 59 = .ok (.iaload, 1) := by decide +kernel
theorem dX9_feed_60 : decode cX9_feed 60 = .ok (.iadd, 1) := by decide +kernel
theorem dX9_feed_61 : decode cX9_feed 61 = .ok (.lload_n 1, 1) := by decide +kernel
theorem dX9_feed_62 : decode cX9_feed 62 = .ok (.bipush 8, 2) := by decide +kernel
theorem dX9_feed_64 : decode cX9_feed 64 = .ok (.iload 4, 2) := by decide +kernel
theorem dX9_feed_66 : decode cX9_feed 66 = .ok (.imul, 1) := by decide +kernel
theorem dX9_feed_67 : decode cX9_feed 67 = .ok (.lshr, 1) := by decide +kernel
theorem dX9_feed_68 : decode cX9_feed 68 = .ok (.ldc2_w 124, 3) := by decide +kernel
theorem dX9_feed_71 : decode cX9_feed 71 = .ok (.land, 1) := by decide +kernel
theorem dX9_feed_72 : decode cX9_feed 72 = .ok (.l2i, 1) := by decide +kernel
theorem dX9_feed_73 : decode cX9_feed 73 = .ok (.iastore, 1) := by decide +kernel
theorem dX9_feed_74 : decode cX9_feed 74 = .ok (.aload_n 0, 1) := by decide +kernel
theorem dX9_feed_75 : decode cX9_feed 75 = .ok (.getfield 9, 3) := by decide +kernel
theorem dX9_feed_78 : decode cX9_feed 78 = .ok (.bipush 6, 2) := by decide +kernel
theorem dX9_feed_80 : decode cX9_feed 80 = .ok (.dup2, 1) := by decide +kernel
theorem dX9_feed_81 : decode cX9_feed 81 = .ok (.iaload, 1) := by decide +kernel
theorem dX9_feed_82 : decode cX9_feed 82 = .ok (.iconst 1, 1) := by decide +kernel
theorem dX9_feed_83 : decode cX9_feed 83 = .ok (.iadd, 1) := by decide +kernel
theorem dX9_feed_84 : decode cX9_feed 84 = .ok (.iastore, 1) := by decide +kernel
theorem dX9_feed_85 : decode cX9_feed 85 = .ok (.iinc 4 1, 3) := by decide +kernel
theorem dX9_feed_88 : decode cX9_feed 88 = .ok (.goto (-47), 3) := by decide +kernel
theorem dX9_feed_91 : decode cX9_feed 91 = .ok (.aload_n 0, 1) := by decide +kernel
theorem dX9_feed_92 : decode cX9_feed 92 = .ok (.getfield 9, 3) := by decide +kernel
theorem dX9_feed_95 : decode cX9_feed 95 = .ok (.bipush 6, 2) := by decide +kernel
theorem dX9_feed_97 : decode cX9_feed 97 = .ok (.iaload, 1) := by decide +kernel
theorem dX9_feed_98 : decode cX9_feed 98 = .ok (.ireturn, 1) := by decide +kernel
theorem dX9_look_0 : decode cX9_look 0 = .ok (.aload_n 0, 1) := by decide +kernel
theorem dX9_look_1 : decode cX9_look 1 = .ok (.getfield 126, 3) := by decide +kernel
theorem dX9_look_4 : decode cX9_look 4 = .ok (.aload_n 0, 1) := by decide +kernel
theorem dX9_look_5 : decode cX9_look 5 = .ok (.getfield 9, 3) := by decide +kernel
theorem dX9_look_8 : decode cX9_look 8 = .ok (.bipush 6, 2) := by decide +kernel
theorem dX9_look_10 : decode cX9_look 10 = .ok (.iaload, 1) := by decide +kernel
theorem dX9_look_11 : decode cX9_look 11 = .ok (.if_icmp .ge 18, 3) := by decide +kernel
theorem dX9_look_14 : decode cX9_look 14 = .ok (.aload_n 0, 1) := by decide +kernel
theorem dX9_look_15 : decode cX9_look 15 = .ok (.getfield 9, 3) := by decide +kernel
theorem dX9_look_18 : decode cX9_look 18 = .ok (.bipush 69, 2) := by decide +kernel
theorem dX9_look_20 : decode cX9_look 20 = .ok (.aload_n 0, 1) := by decide +kernel
theorem dX9_look_21 : decode cX9_look 21 = .ok (.getfield 126, 3) := by decide +kernel
theorem dX9_look_24 : decode cX9_look 24 = .ok (.iadd, 1) := by decide +kernel
theorem dX9_look_25 : decode cX9_look 25 = .ok (.iaload, 1) := by decide +kernel
theorem dX9_look_26 : decode cX9_look 26 = .ok (.goto 4, 3) := by decide +kernel
theorem dX9_look_29 : decode cX9_look 29 = .ok (.iconst (-1), 1) := by decide +kernel
theorem dX9_look_30 : decode cX9_look 30 = .ok (.ireturn, 1) := by decide +kernel
theorem dX9_lays_0 : decode cX9_lays 0 = .ok (.aload_n 0, 1) := by decide +kernel
theorem dX9_lays_1 : decode cX9_lays 1 = .ok (.getfield 130, 3) := by decide +kernel
theorem dX9_lays_4 : decode cX9_lays 4 = .ok (.aload_n 0, 1) := by decide +kernel
theorem dX9_lays_5 : decode cX9_lays 5 = .ok (.getfield 31, 3) := by decide +kernel
theorem dX9_lays_8 : decode cX9_lays 8 = .ok (.arraylength, 1) := by decide +kernel
theorem dX9_lays_9 : decode cX9_lays 9 = .ok (.if_icmp .ge 33, 3) := by decide +kernel
theorem dX9_lays_12 : decode cX9_lays 12 = .ok (.aload_n 0, 1) := by decide +kernel
theorem dX9_lays_13 : decode cX9_lays 13 = .ok (.getfield 31, 3) := by decide +kernel
theorem dX9_lays_16 : decode cX9_lays 16 = .ok (.aload_n 0, 1) := by decide +kernel
theorem dX9_lays_17 : decode cX9_lays 17 = .ok (.getfield 130, 3) := by decide +kernel
theorem dX9_lays_20 : decode cX9_lays 20 = .ok (.iload_n 1, 1) := by decide +kernel
theorem dX9_lays_21 : decode cX9_lays 21 = .ok (.iastore, 1) := by decide +kernel
theorem dX9_lays_22 : decode cX9_lays 22 = .ok (.aload_n 0, 1) := by decide +kernel
theorem dX9_lays_23 : decode cX9_lays 23 = .ok (.getfield 34, 3) := by decide +kernel
theorem dX9_lays_26 : decode cX9_lays 26 = .ok (.aload_n 0, 1) := by decide +kernel
theorem dX9_lays_27 : decode cX9_lays 27 = .ok (.getfield 130, 3) := by decide +kernel
theorem dX9_lays_30 : decode cX9_lays 30 = .ok (.iload_n 2, 1) := by decide +kernel
theorem dX9_lays_31 : decode cX9_lays 31 = .ok (.iastore, 1) := by decide +kernel
theorem dX9_lays_32 : decode cX9_lays 32 = .ok (.aload_n 0, 1) := by decide +kernel
theorem dX9_lays_33 : decode cX9_lays 33 = .ok (.dup, 1) := by decide +kernel
theorem dX9_lays_34 : decode cX9_lays 34 = .ok (.getfield 130, 3) := by decide +kernel
theorem dX9_lays_37 : decode cX9_lays 37 = .ok (.iconst 1, 1) := by decide +kernel
theorem dX9_lays_38 : decode cX9_lays 38 = .ok (.iadd, 1) := by decide +kernel
theorem dX9_lays_39 : decode cX9_lays 39 = .ok (.putfield 130, 3) := by decide +kernel
theorem dX9_lays_42 : decode cX9_lays 42 = .ok (.return_, 1) := by decide +kernel
theorem dX9_nameOf_0 : decode cX9_nameOf 0 = .ok (.iload_n 1, 1) := by decide +kernel
theorem dX9_nameOf_1 : decode cX9_nameOf 1 = .ok (.lookupswitch 111 #[(100, 87), (102, 87), (103, 51), (104, 64), (119, 64)], 51) := by decide +kernel
theorem dX9_nameOf_52 : decode cX9_nameOf 52 = .ok (.aload_n 0, 1) := by decide +kernel
theorem dX9_nameOf_53 : decode cX9_nameOf 53 = .ok (.getfield 133, 3) := by decide +kernel
theorem dX9_nameOf_56 : decode cX9_nameOf 56 = .ok (.ifCond .ne 7, 3) := by decide +kernel
theorem dX9_nameOf_59 : decode cX9_nameOf 59 = .ok (.iconst 2, 1) := by decide +kernel
theorem dX9_nameOf_60 : decode cX9_nameOf 60 = .ok (.goto 4, 3) := by decide +kernel
theorem dX9_nameOf_63 : decode cX9_nameOf 63 = .ok (.iconst 0, 1) := by decide +kernel
theorem dX9_nameOf_64 : decode cX9_nameOf 64 = .ok (.ireturn, 1) := by decide +kernel
theorem dX9_nameOf_65 : decode cX9_nameOf 65 = .ok (.aload_n 0, 1) := by decide +kernel
theorem dX9_nameOf_66 : decode cX9_nameOf 66 = .ok (.getfield 133, 3) := by decide +kernel
theorem dX9_nameOf_69 : decode cX9_nameOf 69 = .ok (.ifCond .eq 7, 3) := by decide +kernel
theorem dX9_nameOf_72 : decode cX9_nameOf 72 = .ok (.iconst (-1), 1) := by decide +kernel
theorem dX9_nameOf_73 : decode cX9_nameOf 73 = .ok (.goto 14, 3) := by decide +kernel
theorem dX9_nameOf_76 : decode cX9_nameOf 76 = .ok (.iload_n 1, 1) := by decide +kernel
theorem dX9_nameOf_77 : decode cX9_nameOf 77 = .ok (.bipush 119, 2) := by decide +kernel
theorem dX9_nameOf_79 : decode cX9_nameOf 79 = .ok (.if_icmp .ne 7, 3) := by decide +kernel
theorem dX9_nameOf_82 : decode cX9_nameOf 82 = .ok (.iconst 0, 1) := by decide +kernel
theorem dX9_nameOf_83 : decode cX9_nameOf 83 = .ok (.goto 4, 3) := by decide +kernel
theorem dX9_nameOf_86 : decode cX9_nameOf 86 = .ok (.iconst 1, 1) := by decide +kernel
theorem dX9_nameOf_87 : decode cX9_nameOf 87 = .ok (.ireturn, 1) := by decide +kernel
theorem dX9_nameOf_88 : decode cX9_nameOf 88 = .ok (.aload_n 0, 1) := by decide +kernel
theorem dX9_nameOf_89 : decode cX9_nameOf 89 = .ok (.getfield 133, 3) := by decide +kernel
theorem dX9_nameOf_92 : decode cX9_nameOf 92 = .ok (.iconst 1, 1) := by decide +kernel
theorem dX9_nameOf_93 : decode cX9_nameOf 93 = .ok (.if_icmp .eq 7, 3) := by decide +kernel
theorem dX9_nameOf_96 : decode cX9_nameOf 96 = .ok (.iconst (-1), 1) := by decide +kernel
theorem dX9_nameOf_97 : decode cX9_nameOf 97 = .ok (.goto 14, 3) := by decide +kernel
theorem dX9_nameOf_100 : decode cX9_nameOf 100 = .ok (.iload_n 1, 1) := by decide +kernel
theorem dX9_nameOf_101 : decode cX9_nameOf 101 = .ok (.bipush 102, 2) := by decide +kernel
theorem dX9_nameOf_103 : decode cX9_nameOf 103 = .ok (.if_icmp .ne 7, 3) := by decide +kernel
theorem dX9_nameOf_106 : decode cX9_nameOf 106 = .ok (.iconst 1, 1) := by decide +kernel
theorem dX9_nameOf_107 : decode cX9_nameOf 107 = .ok (.goto 4, 3) := by decide +kernel
theorem dX9_nameOf_110 : decode cX9_nameOf 110 = .ok (.iconst 2, 1) := by decide +kernel
theorem dX9_nameOf_111 : decode cX9_nameOf 111 = .ok (.ireturn, 1) := by decide +kernel
theorem dX9_nameOf_112 : decode cX9_nameOf 112 = .ok (.iconst (-1), 1) := by decide +kernel
theorem dX9_nameOf_113 : decode cX9_nameOf 113 = .ok (.ireturn, 1) := by decide +kernel
theorem dX9_number_0 : decode cX9_number 0 = .ok (.iconst 0, 1) := by decide +kernel
theorem dX9_number_1 : decode cX9_number 1 = .ok (.istore_n 1, 1) := by decide +kernel
theorem dX9_number_2 : decode cX9_number 2 = .ok (.iconst 0, 1) := by decide +kernel
theorem dX9_number_3 : decode cX9_number 3 = .ok (.istore_n 2, 1) := by decide +kernel
theorem dX9_number_4 : decode cX9_number 4 = .ok (.iload_n 2, 1) := by decide +kernel
theorem dX9_number_5 : decode cX9_number 5 = .ok (.iconst 4, 1) := by decide +kernel
theorem dX9_number_6 : decode cX9_number 6 = .ok (.if_icmp .ge 46, 3) := by decide +kernel
theorem dX9_number_9 : decode cX9_number 9 = .ok (.aload_n 0, 1) := by decide +kernel
theorem dX9_number_10 : decode cX9_number 10 = .ok (.invokevirtual 136, 3) := by decide +kernel
theorem dX9_number_13 : decode cX9_number 13 = .ok (.bipush 48, 2) := by decide +kernel
theorem dX9_number_15 : decode cX9_number 15 = .ok (.bipush 57, 2) := by decide +kernel
theorem dX9_number_17 : decode cX9_number 17 = .ok (.invokestatic 60, 3) := by decide +kernel
theorem dX9_number_20 : decode cX9_number 20 = .ok (.ifCond .eq 32, 3) := by decide +kernel
theorem dX9_number_23 : decode cX9_number 23 = .ok (.bipush 10, 2) := by decide +kernel
theorem dX9_number_25 : decode cX9_number 25 = .ok (.iload_n 1, 1) := by decide +kernel
theorem dX9_number_26 : decode cX9_number 26 = .ok (.imul, 1) := by decide +kernel
theorem dX9_number_27 : decode cX9_number 27 = .ok (.aload_n 0, 1) := by decide +kernel
theorem dX9_number_28 : decode cX9_number 28 = .ok (.invokevirtual 136, 3) := by decide +kernel
theorem dX9_number_31 : decode cX9_number 31 = .ok (.iadd, 1) := by decide +kernel
theorem dX9_number_32 : decode cX9_number 32 = .ok (.bipush 48, 2) := by decide +kernel
theorem dX9_number_34 : decode cX9_number 34 = .ok (.isub, 1) := by decide +kernel
theorem dX9_number_35 : decode cX9_number 35 = .ok (.istore_n 1, 1) := by decide +kernel
theorem dX9_number_36 : decode cX9_number 36 = .ok (.aload_n 0, 1) := by decide +kernel
theorem dX9_number_37 : decode cX9_number 37 = .ok (.dup, 1) := by decide +kernel
theorem dX9_number_38 : decode cX9_number 38 = .ok (.getfield 126, 3) := by decide +kernel
theorem dX9_number_41 : decode cX9_number 41 = .ok (.iconst 1, 1) := by decide +kernel
theorem dX9_number_42 : decode cX9_number 42 = .ok (.iadd, 1) := by decide +kernel
theorem dX9_number_43 : decode cX9_number 43 = .ok (.putfield 126, 3) := by decide +kernel
theorem dX9_number_46 : decode cX9_number 46 = .ok (.iinc 2 1, 3) := by decide +kernel
theorem dX9_number_49 : decode cX9_number 49 = .ok (.goto (-45), 3) := by decide +kernel
theorem dX9_number_52 : decode cX9_number 52 = .ok (.aload_n 0, 1) := by decide +kernel
theorem dX9_number_53 : decode cX9_number 53 = .ok (.iload_n 2, 1) := by decide +kernel
theorem dX9_number_54 : decode cX9_number 54 = .ok (.ifCond .ne 7, 3) := by decide +kernel
theorem dX9_number_57 : decode cX9_number 57 = .ok (.iconst 1, 1) := by decide +kernel
theorem dX9_number_58 : decode cX9_number 58 = .ok (.goto 4, 3) := by decide +kernel
theorem dX9_number_61 : decode cX9_number 61 = .ok (.iconst 0, 1) := by decide +kernel
theorem dX9_number_62 : decode cX9_number 62 = .ok (.putfield 140, 3) := by decide +kernel
theorem dX9_number_65 : decode cX9_number 65 = .ok (.aload_n 0, 1) := by decide +kernel
theorem dX9_number_66 : decode cX9_number 66 = .ok (.iconst 1, 1) := by decide +kernel
theorem dX9_number_67 : decode cX9_number 67 = .ok (.iload_n 1, 1) := by decide +kernel
theorem dX9_number_68 : decode cX9_number 68 = .ok (.invokevirtual 144, 3) := by decide +kernel
theorem dX9_number_71 : decode cX9_number 71 = .ok (.return_, 1) := by decide +kernel
theorem dX9_opens_0 : decode cX9_opens 0 = .ok (.aload_n 0, 1) := by decide +kernel
theorem dX9_opens_1 : decode cX9_opens 1 = .ok (.getfield 148, 3) := by decide +kernel
theorem dX9_opens_4 : decode cX9_opens 4 = .ok (.iconst 5, 1) := by decide +kernel
theorem dX9_opens_5 : decode cX9_opens 5 = .ok (.if_icmp .ne 9, 3) := by decide +kernel
theorem dX9_opens_8 : decode cX9_opens 8 = .ok (.aload_n 0, 1) := by decide +kernel
theorem dX9_opens_9 : decode cX9_opens 9 = .ok (.iconst 1, 1) := by decide +kernel
theorem dX9_opens_10 : decode cX9_opens 10 = .ok (.putfield 140, 3) := by decide +kernel
theorem dX9_opens_13 : decode cX9_opens 13 = .ok (.return_, 1) := by decide +kernel
theorem dX9_opens_14 : decode cX9_opens 14 = .ok (.aload_n 0, 1) := by decide +kernel
theorem dX9_opens_15 : decode cX9_opens 15 = .ok (.dup, 1) := by decide +kernel
theorem dX9_opens_16 : decode cX9_opens 16 = .ok (.getfield 148, 3) := by decide +kernel
theorem dX9_opens_19 : decode cX9_opens 19 = .ok (.iconst 1, 1) := by decide +kernel
theorem dX9_opens_20 : decode cX9_opens 20 = .ok (.iadd, 1) := by decide +kernel
theorem dX9_opens_21 : decode cX9_opens 21 = .ok (.putfield 148, 3) := by decide +kernel
theorem dX9_opens_24 : decode cX9_opens 24 = .ok (.aload_n 0, 1) := by decide +kernel
theorem dX9_opens_25 : decode cX9_opens 25 = .ok (.dup, 1) := by decide +kernel
theorem dX9_opens_26 : decode cX9_opens 26 = .ok (.getfield 126, 3) := by decide +kernel
theorem dX9_opens_29 : decode cX9_opens 29 = .ok (.iconst 1, 1) := by decide +kernel
theorem dX9_opens_30 : decode cX9_opens 30 = .ok (.iadd, 1) := by decide +kernel
theorem dX9_opens_31 : decode cX9_opens 31 = .ok (.putfield 126, 3) := by decide +kernel
theorem dX9_opens_34 : decode cX9_opens 34 = .ok (.iload_n 1, 1) := by decide +kernel
theorem dX9_opens_35 : decode cX9_opens 35 = .ok (.bipush 33, 2) := by decide +kernel
theorem dX9_opens_37 : decode cX9_opens 37 = .ok (.if_icmp .ne 16, 3) := by decide +kernel
theorem dX9_opens_40 : decode cX9_opens 40 = .ok (.aload_n 0, 1) := by decide +kernel
theorem dX9_opens_41 : decode cX9_opens 41 = .ok (.invokevirtual 151, 3) := by decide +kernel
theorem dX9_opens_44 : decode cX9_opens 44 = .ok (.aload_n 0, 1) := by decide +kernel
theorem dX9_opens_45 : decode cX9_opens 45 = .ok (.iconst 3, 1) := by decide +kernel
theorem dX9_opens_46 : decode cX9_opens 46 = .ok (.iconst 0, 1) := by decide +kernel
theorem dX9_opens_47 : decode cX9_opens 47 = .ok (.invokevirtual 144, 3) := by decide +kernel
theorem dX9_opens_50 : decode cX9_opens 50 = .ok (.goto 53, 3) := by decide +kernel
theorem dX9_opens_53 : decode cX9_opens 53 = .ok (.aload_n 0, 1) := by decide +kernel
theorem dX9_opens_54 : decode cX9_opens 54 = .ok (.invokevirtual 154, 3) := by decide +kernel
theorem dX9_opens_57 : decode cX9_opens 57 = .ok (.aload_n 0, 1) := by decide +kernel
theorem dX9_opens_58 : decode cX9_opens 58 = .ok (.aload_n 0, 1) := by decide +kernel
theorem dX9_opens_59 : decode cX9_opens 59 = .ok (.getfield 140, 3) := by decide +kernel
theorem dX9_opens_62 : decode cX9_opens 62 = .ok (.ifCond .ne 12, 3) := by decide +kernel
theorem dX9_opens_65 : decode cX9_opens 65 = .ok (.aload_n 0, 1) := by decide +kernel
theorem dX9_opens_66 : decode cX9_opens 66 = .ok (.invokevirtual 136, 3) := by decide +kernel
theorem dX9_opens_69 : decode cX9_opens 69 = .ok (.bipush 41, 2) := by decide +kernel
theorem dX9_opens_71 : decode cX9_opens 71 = .ok (.if_icmp .eq 7, 3) := by decide +kernel
theorem dX9_opens_74 : decode cX9_opens 74 = .ok (.iconst 1, 1) := by decide +kernel
theorem dX9_opens_75 : decode cX9_opens 75 = .ok (.goto 4, 3) := by decide +kernel
theorem dX9_opens_78 : decode cX9_opens 78 = .ok (.iconst 0, 1) := by decide +kernel
theorem dX9_opens_79 : decode cX9_opens 79 = .ok (.putfield 140, 3) := by decide +kernel
theorem dX9_opens_82 : decode cX9_opens 82 = .ok (.aload_n 0, 1) := by decide +kernel
theorem dX9_opens_83 : decode cX9_opens 83 = .ok (.dup, 1) := by decide +kernel
theorem dX9_opens_84 : decode cX9_opens 84 = .ok (.getfield 126, 3) := by decide +kernel
theorem dX9_opens_87 : decode cX9_opens 87 = .ok (.aload_n 0, 1) := by decide +kernel
theorem dX9_opens_88 : decode cX9_opens 88 = .ok (.getfield 140, 3) := by decide +kernel
theorem dX9_opens_91 : decode cX9_opens 91 = .ok (.ifCond .eq 7, 3) := by decide +kernel
theorem dX9_opens_94 : decode cX9_opens 94 = .ok (.iconst 0, 1) := by decide +kernel
theorem dX9_opens_95 : decode cX9_opens 95 = .ok (.goto 4, 3) := by decide +kernel
theorem dX9_opens_98 : decode cX9_opens 98 = .ok (.iconst 1, 1) := by decide +kernel
theorem dX9_opens_99 : decode cX9_opens 99 = .ok (.iadd, 1) := by decide +kernel
theorem dX9_opens_100 : decode cX9_opens 100 = .ok (.putfield 126, 3) := by decide +kernel
theorem dX9_opens_103 : decode cX9_opens 103 = .ok (.aload_n 0, 1) := by decide +kernel
theorem dX9_opens_104 : decode cX9_opens 104 = .ok (.dup, 1) := by decide +kernel
theorem dX9_opens_105 : decode cX9_opens 105 = .ok (.getfield 148, 3) := by decide +kernel
theorem dX9_opens_108 : decode cX9_opens 108 = .ok (.iconst 1, 1) := by decide +kernel
theorem dX9_opens_109 : decode cX9_opens 109 = .ok (.isub, 1) := by decide +kernel
theorem dX9_opens_110 : decode cX9_opens 110 = .ok (.putfield 148, 3) := by decide +kernel
theorem dX9_opens_113 : decode cX9_opens 113 = .ok (.return_, 1) := by decide +kernel
theorem dX9_one_0 : decode cX9_one 0 = .ok (.aload_n 0, 1) := by decide +kernel
theorem dX9_one_1 : decode cX9_one 1 = .ok (.invokevirtual 136, 3) := by decide +kernel
theorem dX9_one_4 : decode cX9_one 4 = .ok (.istore_n 1, 1) := by decide +kernel
theorem dX9_one_5 : decode cX9_one 5 = .ok (.aload_n 0, 1) := by decide +kernel
theorem dX9_one_6 : decode cX9_one 6 = .ok (.iload_n 1, 1) := by decide +kernel
theorem dX9_one_7 : decode cX9_one 7 = .ok (.invokevirtual 157, 3) := by decide +kernel
theorem dX9_one_10 : decode cX9_one 10 = .ok (.istore_n 2, 1) := by decide +kernel
theorem dX9_one_11 : decode cX9_one 11 = .ok (.iload_n 2, 1) := by decide +kernel
theorem dX9_one_12 : decode cX9_one 12 = .ok (.ifCond .lt 22, 3) := by decide +kernel
theorem dX9_one_15 : decode cX9_one 15 = .ok (.aload_n 0, 1) := by decide +kernel
theorem dX9_one_16 : decode cX9_one 16 = .ok (.dup, 1) := by decide +kernel
theorem dX9_one_17 : decode cX9_one 17 = .ok (.getfield 126, 3) := by decide +kernel
theorem dX9_one_20 : decode cX9_one 20 = .ok (.iconst 1, 1) := by decide +kernel
theorem dX9_one_21 : decode cX9_one 21 = .ok (.iadd, 1) := by decide +kernel
theorem dX9_one_22 : decode cX9_one 22 = .ok (.putfield 126, 3) := by decide +kernel
theorem dX9_one_25 : decode cX9_one 25 = .ok (.aload_n 0, 1) := by decide +kernel
theorem dX9_one_26 : decode cX9_one 26 = .ok (.iconst 2, 1) := by decide +kernel
theorem dX9_one_27 : decode cX9_one 27 = .ok (.iload_n 2, 1) := by decide +kernel
theorem dX9_one_28 : decode cX9_one 28 = .ok (.invokevirtual 144, 3) := by decide +kernel
theorem dX9_one_31 : decode cX9_one 31 = .ok (.goto 27, 3) := by decide +kernel
theorem dX9_one_34 : decode cX9_one 34 = .ok (.iload_n 1, 1) := by decide +kernel
theorem dX9_one_35 : decode cX9_one 35 = .ok (.bipush 33, 2) := by decide +kernel
theorem dX9_one_37 : decode cX9_one 37 = .ok (.if_icmp .eq 9, 3) := by decide +kernel
theorem dX9_one_40 : decode cX9_one 40 = .ok (.iload_n 1, 1) := by decide +kernel
theorem dX9_one_41 : decode cX9_one 41 = .ok (.bipush 40, 2) := by decide +kernel
theorem dX9_one_43 : decode cX9_one 43 = .ok (.if_icmp .ne 11, 3) := by decide +kernel
theorem dX9_one_46 : decode cX9_one 46 = .ok (.aload_n 0, 1) := by decide +kernel
theorem dX9_one_47 : decode cX9_one 47 = .ok (.iload_n 1, 1) := by decide +kernel
theorem dX9_one_48 : decode cX9_one 48 = .ok (.invokevirtual 160, 3) := by decide +kernel
theorem dX9_one_51 : decode cX9_one 51 = .ok (.goto 7, 3) := by decide +kernel
theorem dX9_one_54 : decode cX9_one 54 = .ok (.aload_n 0, 1) := by decide +kernel
theorem dX9_one_55 : decode cX9_one 55 = .ok (.invokevirtual 164, 3) := by decide +kernel
theorem dX9_one_58 : decode cX9_one 58 = .ok (.return_, 1) := by decide +kernel
theorem dX9_times_0 : decode cX9_times 0 = .ok (.aload_n 0, 1) := by decide +kernel
theorem dX9_times_1 : decode cX9_times 1 = .ok (.invokevirtual 151, 3) := by decide +kernel
theorem dX9_times_4 : decode cX9_times 4 = .ok (.aload_n 0, 1) := by decide +kernel
theorem dX9_times_5 : decode cX9_times 5 = .ok (.getfield 140, 3) := by decide +kernel
theorem dX9_times_8 : decode cX9_times 8 = .ok (.ifCond .ne 58, 3) := by decide +kernel
theorem dX9_times_11 : decode cX9_times 11 = .ok (.aload_n 0, 1) := by decide +kernel
theorem dX9_times_12 : decode cX9_times 12 = .ok (.invokevirtual 136, 3) := by decide +kernel
theorem dX9_times_15 : decode cX9_times 15 = .ok (.bipush 42, 2) := by decide +kernel
theorem dX9_times_17 : decode cX9_times 17 = .ok (.if_icmp .eq 21, 3) := by decide +kernel
theorem dX9_times_20 : decode cX9_times 20 = .ok (.aload_n 0, 1) := by decide +kernel
theorem dX9_times_21 : decode cX9_times 21 = .ok (.invokevirtual 136, 3) := by decide +kernel
theorem dX9_times_24 : decode cX9_times 24 = .ok (.bipush 47, 2) := by decide +kernel
theorem dX9_times_26 : decode cX9_times 26 = .ok (.if_icmp .eq 12, 3) := by decide +kernel
theorem dX9_times_29 : decode cX9_times 29 = .ok (.aload_n 0, 1) := by decide +kernel
theorem dX9_times_30 : decode cX9_times 30 = .ok (.invokevirtual 136, 3) := by decide +kernel
theorem dX9_times_33 : decode cX9_times 33 = .ok (.bipush 37, 2) := by decide +kernel
theorem dX9_times_35 : decode cX9_times 35 = .ok (.if_icmp .ne 31, 3) := by decide +kernel
theorem dX9_times_38 : decode cX9_times 38 = .ok (.aload_n 0, 1) := by decide +kernel
theorem dX9_times_39 : decode cX9_times 39 = .ok (.invokevirtual 136, 3) := by decide +kernel
theorem dX9_times_42 : decode cX9_times 42 = .ok (.istore_n 1, 1) := by decide +kernel
theorem dX9_times_43 : decode cX9_times 43 = .ok (.aload_n 0, 1) := by decide +kernel
theorem dX9_times_44 : decode cX9_times 44 = .ok (.dup, 1) := by decide +kernel
theorem dX9_times_45 : decode cX9_times 45 = .ok (.getfield 126, 3) := by decide +kernel
theorem dX9_times_48 : decode cX9_times 48 = .ok (.iconst 1, 1) := by decide +kernel
theorem dX9_times_49 : decode cX9_times 49 = .ok (.iadd, 1) := by decide +kernel
theorem dX9_times_50 : decode cX9_times 50 = .ok (.putfield 126, 3) := by decide +kernel
theorem dX9_times_53 : decode cX9_times 53 = .ok (.aload_n 0, 1) := by decide +kernel
theorem dX9_times_54 : decode cX9_times 54 = .ok (.invokevirtual 151, 3) := by decide +kernel
theorem dX9_times_57 : decode cX9_times 57 = .ok (.aload_n 0, 1) := by decide +kernel
theorem dX9_times_58 : decode cX9_times 58 = .ok (.iload_n 1, 1) := by decide +kernel
theorem dX9_times_59 : decode cX9_times 59 = .ok (.iconst 0, 1) := by decide +kernel
theorem dX9_times_60 : decode cX9_times 60 = .ok (.invokevirtual 144, 3) := by decide +kernel
theorem dX9_times_63 : decode cX9_times 63 = .ok (.goto (-59), 3) := by decide +kernel
theorem dX9_times_66 : decode cX9_times 66 = .ok (.return_, 1) := by decide +kernel
theorem dX9_sum_0 : decode cX9_sum 0 = .ok (.aload_n 0, 1) := by decide +kernel
theorem dX9_sum_1 : decode cX9_sum 1 = .ok (.invokevirtual 167, 3) := by decide +kernel
theorem dX9_sum_4 : decode cX9_sum 4 = .ok (.aload_n 0, 1) := by decide +kernel
theorem dX9_sum_5 : decode cX9_sum 5 = .ok (.getfield 140, 3) := by decide +kernel
theorem dX9_sum_8 : decode cX9_sum 8 = .ok (.ifCond .ne 49, 3) := by decide +kernel
theorem dX9_sum_11 : decode cX9_sum 11 = .ok (.aload_n 0, 1) := by decide +kernel
theorem dX9_sum_12 : decode cX9_sum 12 = .ok (.invokevirtual 136, 3) := by decide +kernel
theorem dX9_sum_15 : decode cX9_sum 15 = .ok (.bipush 43, 2) := by decide +kernel
theorem dX9_sum_17 : decode cX9_sum 17 = .ok (.if_icmp .eq 12, 3) := by decide +kernel
theorem dX9_sum_20 : decode cX9_sum 20 = .ok (.aload_n 0, 1) := by decide +kernel
theorem dX9_sum_21 : decode cX9_sum 21 = .ok (.invokevirtual 136, 3) := by decide +kernel
theorem dX9_sum_24 : decode cX9_sum 24 = .ok (.bipush 45, 2) := by decide +kernel
theorem dX9_sum_26 : decode cX9_sum 26 = .ok (.if_icmp .ne 31, 3) := by decide +kernel
theorem dX9_sum_29 : decode cX9_sum 29 = .ok (.aload_n 0, 1) := by decide +kernel
theorem dX9_sum_30 : decode cX9_sum 30 = .ok (.invokevirtual 136, 3) := by decide +kernel
theorem dX9_sum_33 : decode cX9_sum 33 = .ok (.istore_n 1, 1) := by decide +kernel
theorem dX9_sum_34 : decode cX9_sum 34 = .ok (.aload_n 0, 1) := by decide +kernel
theorem dX9_sum_35 : decode cX9_sum 35 = .ok (.dup, 1) := by decide +kernel
theorem dX9_sum_36 : decode cX9_sum 36 = .ok (.getfield 126, 3) := by decide +kernel
theorem dX9_sum_39 : decode cX9_sum 39 = .ok (.iconst 1, 1) := by decide +kernel
theorem dX9_sum_40 : decode cX9_sum 40 = .ok (.iadd, 1) := by decide +kernel
theorem dX9_sum_41 : decode cX9_sum 41 = .ok (.putfield 126, 3) := by decide +kernel
theorem dX9_sum_44 : decode cX9_sum 44 = .ok (.aload_n 0, 1) := by decide +kernel
theorem dX9_sum_45 : decode cX9_sum 45 = .ok (.invokevirtual 167, 3) := by decide +kernel
theorem dX9_sum_48 : decode cX9_sum 48 = .ok (.aload_n 0, 1) := by decide +kernel
theorem dX9_sum_49 : decode cX9_sum 49 = .ok (.iload_n 1, 1) := by decide +kernel
theorem dX9_sum_50 : decode cX9_sum 50 = .ok (.iconst 0, 1) := by decide +kernel
theorem dX9_sum_51 : decode cX9_sum 51 = .ok (.invokevirtual 144, 3) := by decide +kernel
theorem dX9_sum_54 : decode cX9_sum 54 = .ok (.goto (-50), 3) := by decide +kernel
theorem dX9_sum_57 : decode cX9_sum 57 = .ok (.return_, 1) := by decide +kernel
theorem dX9_compares_0 : decode cX9_compares 0 = .ok (.aload_n 0, 1) := by decide +kernel
theorem dX9_compares_1 : decode cX9_compares 1 = .ok (.invokevirtual 170, 3) := by decide +kernel
theorem dX9_compares_4 : decode cX9_compares 4 = .ok (.aload_n 0, 1) := by decide +kernel
theorem dX9_compares_5 : decode cX9_compares 5 = .ok (.invokevirtual 136, 3) := by decide +kernel
theorem dX9_compares_8 : decode cX9_compares 8 = .ok (.istore_n 1, 1) := by decide +kernel
theorem dX9_compares_9 : decode cX9_compares 9 = .ok (.aload_n 0, 1) := by decide +kernel
theorem dX9_compares_10 : decode cX9_compares 10 = .ok (.getfield 140, 3) := by decide +kernel
theorem dX9_compares_13 : decode cX9_compares 13 = .ok (.ifCond .ne 41, 3) := by decide +kernel
theorem dX9_compares_16 : decode cX9_compares 16 = .ok (.iload_n 1, 1) := by decide +kernel
theorem dX9_compares_17 : decode cX9_compares 17 = .ok (.bipush 60, 2) := by decide +kernel
theorem dX9_compares_19 : decode cX9_compares 19 = .ok (.if_icmp .eq 15, 3) := by decide +kernel
theorem dX9_compares_22 : decode cX9_compares 22 = .ok (.iload_n 1, 1) := by decide +kernel
theorem dX9_compares_23 : decode cX9_compares 23 = .ok (.bipush 61, 2) := by decide +kernel
theorem dX9_compares_25 : decode cX9_compares 25 = .ok (.if_icmp .eq 9, 3) := by decide +kernel
theorem dX9_compares_28 : decode cX9_compares 28 = .ok (.iload_n 1, 1) := by decide +kernel
theorem dX9_compares_29 : decode cX9_compares 29 = .ok (.bipush 62, 2) := by decide +kernel
theorem dX9_compares_31 : decode cX9_compares 31 = .ok (.if_icmp .ne 23, 3) := by decide +kernel
theorem dX9_compares_34 : decode cX9_compares 34 = .ok (.aload_n 0, 1) := by decide +kernel
theorem dX9_compares_35 : decode cX9_compares 35 = .ok (.dup, 1) := by decide +kernel
theorem dX9_compares_36 : decode cX9_compares 36 = .ok (.getfield 126, 3) := by decide +kernel
theorem dX9_compares_39 : decode cX9_compares 39 = .ok (.iconst 1, 1) := by decide +kernel
theorem dX9_compares_40 : decode cX9_compares 40 = .ok (.iadd, 1) := by decide +kernel
theorem dX9_compares_41 : decode cX9_compares 41 = .ok (.putfield 126, 3) := by decide +kernel
theorem dX9_compares_44 : decode cX9_compares 44 = .ok (.aload_n 0, 1) := by decide +kernel
theorem dX9_compares_45 : decode cX9_compares 45 = .ok (.invokevirtual 170, 3) := by decide +kernel
theorem dX9_compares_48 : decode cX9_compares 48 = .ok (.aload_n 0, 1) := by decide +kernel
theorem dX9_compares_49 : decode cX9_compares 49 = .ok (.iload_n 1, 1) := by decide +kernel
theorem dX9_compares_50 : decode cX9_compares 50 = .ok (.iconst 0, 1) := by decide +kernel
theorem dX9_compares_51 : decode cX9_compares 51 = .ok (.invokevirtual 144, 3) := by decide +kernel
theorem dX9_compares_54 : decode cX9_compares 54 = .ok (.return_, 1) := by decide +kernel
theorem dX9_allBy_0 : decode cX9_allBy 0 = .ok (.aload_n 0, 1) := by decide +kernel
theorem dX9_allBy_1 : decode cX9_allBy 1 = .ok (.invokevirtual 173, 3) := by decide +kernel
theorem dX9_allBy_4 : decode cX9_allBy 4 = .ok (.aload_n 0, 1) := by decide +kernel
theorem dX9_allBy_5 : decode cX9_allBy 5 = .ok (.getfield 140, 3) := by decide +kernel
theorem dX9_allBy_8 : decode cX9_allBy 8 = .ok (.ifCond .ne 36, 3) := by decide +kernel
theorem dX9_allBy_11 : decode cX9_allBy 11 = .ok (.aload_n 0, 1) := by decide +kernel
theorem dX9_allBy_12 : decode cX9_allBy 12 = .ok (.invokevirtual 136, 3) := by decide +kernel
theorem dX9_allBy_15 : decode cX9_allBy 15 = .ok (.bipush 38, 2) := by decide +kernel
theorem dX9_allBy_17 : decode cX9_allBy 17 = .ok (.if_icmp .ne 27, 3) := by decide +kernel
theorem dX9_allBy_20 : decode cX9_allBy 20 = .ok (.aload_n 0, 1) := by decide +kernel
theorem dX9_allBy_21 : decode cX9_allBy 21 = .ok (.dup, 1) := by decide +kernel
theorem dX9_allBy_22 : decode cX9_allBy 22 = .ok (.getfield 126, 3) := by decide +kernel
theorem dX9_allBy_25 : decode cX9_allBy 25 = .ok (.iconst 1, 1) := by decide +kernel
theorem dX9_allBy_26 : decode cX9_allBy 26 = .ok (.iadd, 1) := by decide +kernel
theorem dX9_allBy_27 : decode cX9_allBy 27 = .ok (.putfield 126, 3) := by decide +kernel
theorem dX9_allBy_30 : decode cX9_allBy 30 = .ok (.aload_n 0, 1) := by decide +kernel
theorem dX9_allBy_31 : decode cX9_allBy 31 = .ok (.invokevirtual 173, 3) := by decide +kernel
theorem dX9_allBy_34 : decode cX9_allBy 34 = .ok (.aload_n 0, 1) := by decide +kernel
theorem dX9_allBy_35 : decode cX9_allBy 35 = .ok (.bipush 38, 2) := by decide +kernel
theorem dX9_allBy_37 : decode cX9_allBy 37 = .ok (.iconst 0, 1) := by decide +kernel
theorem dX9_allBy_38 : decode cX9_allBy 38 = .ok (.invokevirtual 144, 3) := by decide +kernel
theorem dX9_allBy_41 : decode cX9_allBy 41 = .ok (.goto (-37), 3) := by decide +kernel
theorem dX9_allBy_44 : decode cX9_allBy 44 = .ok (.return_, 1) := by decide +kernel
theorem dX9_any_0 : decode cX9_any 0 = .ok (.aload_n 0, 1) := by decide +kernel
theorem dX9_any_1 : decode cX9_any 1 = .ok (.invokevirtual 176, 3) := by decide +kernel
theorem dX9_any_4 : decode cX9_any 4 = .ok (.aload_n 0, 1) := by decide +kernel
theorem dX9_any_5 : decode cX9_any 5 = .ok (.getfield 140, 3) := by decide +kernel
theorem dX9_any_8 : decode cX9_any 8 = .ok (.ifCond .ne 36, 3) := by decide +kernel
theorem dX9_any_11 : decode cX9_any 11 = .ok (.aload_n 0, 1) := by decide +kernel
theorem dX9_any_12 : decode cX9_any 12 = .ok (.invokevirtual 136, 3) := by decide +kernel
theorem dX9_any_15 : decode cX9_any 15 = .ok (.bipush 124, 2) := by decide +kernel
theorem dX9_any_17 : decode cX9_any 17 = .ok (.if_icmp .ne 27, 3) := by decide +kernel
theorem dX9_any_20 : decode cX9_any 20 = .ok (.aload_n 0, 1) := by decide +kernel
theorem dX9_any_21 : decode cX9_any 21 = .ok (.dup, 1) := by decide +kernel
theorem dX9_any_22 : decode cX9_any 22 = .ok (.getfield 126, 3) := by decide +kernel
theorem dX9_any_25 : decode cX9_any 25 = .ok (.iconst 1, 1) := by decide +kernel
theorem dX9_any_26 : decode cX9_any 26 = .ok (.iadd, 1) := by decide +kernel
theorem dX9_any_27 : decode cX9_any 27 = .ok (.putfield 126, 3) := by decide +kernel
theorem dX9_any_30 : decode cX9_any 30 = .ok (.aload_n 0, 1) := by decide +kernel
theorem dX9_any_31 : decode cX9_any 31 = .ok (.invokevirtual 176, 3) := by decide +kernel
theorem dX9_any_34 : decode cX9_any 34 = .ok (.aload_n 0, 1) := by decide +kernel
theorem dX9_any_35 : decode cX9_any 35 = .ok (.bipush 124, 2) := by decide +kernel
theorem dX9_any_37 : decode cX9_any 37 = .ok (.iconst 0, 1) := by decide +kernel
theorem dX9_any_38 : decode cX9_any 38 = .ok (.invokevirtual 144, 3) := by decide +kernel
theorem dX9_any_41 : decode cX9_any 41 = .ok (.goto (-37), 3) := by decide +kernel
theorem dX9_any_44 : decode cX9_any 44 = .ok (.return_, 1) := by decide +kernel
theorem dX9_text_0 : decode cX9_text 0 = .ok (.iload_n 1, 1) := by decide +kernel
theorem dX9_text_1 : decode cX9_text 1 = .ok (.iconst 0, 1) := by decide +kernel
theorem dX9_text_2 : decode cX9_text 2 = .ok (.iconst 1, 1) := by decide +kernel
theorem dX9_text_3 : decode cX9_text 3 = .ok (.invokestatic 60, 3) := by decide +kernel
theorem dX9_text_6 : decode cX9_text 6 = .ok (.ifCond .ne 10, 3) := by decide +kernel
theorem dX9_text_9 : decode cX9_text 9 = .ok (.aload_n 0, 1) := by decide +kernel
theorem dX9_text_10 : decode cX9_text 10 = .ok (.ldc 95, 2) := by decide +kernel
theorem dX9_text_12 : decode cX9_text 12 = .ok (.invokevirtual 96, 3) := by decide +kernel
theorem dX9_text_15 : decode cX9_text 15 = .ok (.ireturn, 1) := by decide +kernel
theorem dX9_text_16 : decode cX9_text 16 = .ok (.aload_n 0, 1) := by decide +kernel
theorem dX9_text_17 : decode cX9_text 17 = .ok (.iload_n 1, 1) := by decide +kernel
theorem dX9_text_18 : decode cX9_text 18 = .ok (.putfield 133, 3) := by decide +kernel
theorem dX9_text_21 : decode cX9_text 21 = .ok (.aload_n 0, 1) := by decide +kernel
theorem dX9_text_22 : decode cX9_text 22 = .ok (.iconst 0, 1) := by decide +kernel
theorem dX9_text_23 : decode cX9_text 23 = .ok (.putfield 130, 3) := by decide +kernel
theorem dX9_text_26 : decode cX9_text 26 = .ok (.aload_n 0, 1) := by decide +kernel
theorem dX9_text_27 : decode cX9_text 27 = .ok (.iconst 0, 1) := by decide +kernel
theorem dX9_text_28 : decode cX9_text 28 = .ok (.putfield 126, 3) := by decide +kernel
theorem dX9_text_31 : decode cX9_text 31 = .ok (.aload_n 0, 1) := by decide +kernel
theorem dX9_text_32 : decode cX9_text 32 = .ok (.iconst 0, 1) := by decide +kernel
theorem dX9_text_33 : decode cX9_text 33 = .ok (.putfield 148, 3) := by decide +kernel
theorem dX9_text_36 : decode cX9_text 36 = .ok (.aload_n 0, 1) := by decide +kernel
theorem dX9_text_37 : decode cX9_text 37 = .ok (.iconst 0, 1) := by decide +kernel
theorem dX9_text_38 : decode cX9_text 38 = .ok (.putfield 140, 3) := by decide +kernel
theorem dX9_text_41 : decode cX9_text 41 = .ok (.aload_n 0, 1) := by decide +kernel
theorem dX9_text_42 : decode cX9_text 42 = .ok (.invokevirtual 154, 3) := by decide +kernel
theorem dX9_text_45 : decode cX9_text 45 = .ok (.aload_n 0, 1) := by decide +kernel
theorem dX9_text_46 : decode cX9_text 46 = .ok (.aload_n 0, 1) := by decide +kernel
theorem dX9_text_47 : decode cX9_text 47 = .ok (.getfield 140, 3) := by decide +kernel
theorem dX9_text_50 : decode cX9_text 50 = .ok (.ifCond .ne 17, 3) := by decide +kernel
theorem dX9_text_53 : decode cX9_text 53 = .ok (.aload_n 0, 1) := by decide +kernel
theorem dX9_text_54 : decode cX9_text 54 = .ok (.getfield 126, 3) := by decide +kernel
theorem dX9_text_57 : decode cX9_text 57 = .ok (.aload_n 0, 1) := by decide +kernel
theorem dX9_text_58 : decode cX9_text 58 = .ok (.getfield 9, 3) := by decide +kernel
theorem dX9_text_61 : decode cX9_text 61 = .ok (.bipush 6, 2) := by decide +kernel
theorem dX9_text_63 : decode cX9_text 63 = .ok (.iaload, 1) := by decide +kernel
theorem dX9_text_64 : decode cX9_text 64 = .ok (.if_icmp .ge 7, 3) := by decide +kernel
theorem dX9_text_67 : decode cX9_text 67 = .ok (.iconst 1, 1) := by decide +kernel
theorem dX9_text_68 : decode cX9_text 68 = .ok (.goto 4, 3) := by decide +kernel
theorem dX9_text_71 : decode cX9_text 71 = .ok (.iconst 0, 1) := by decide +kernel
theorem dX9_text_72 : decode cX9_text 72 = .ok (.putfield 140, 3) := by decide +kernel
theorem dX9_text_75 : decode cX9_text 75 = .ok (.aload_n 0, 1) := by decide +kernel
theorem dX9_text_76 : decode cX9_text 76 = .ok (.getfield 9, 3) := by decide +kernel
theorem dX9_text_79 : decode cX9_text 79 = .ok (.bipush 6, 2) := by decide +kernel
theorem dX9_text_81 : decode cX9_text 81 = .ok (.iconst 0, 1) := by decide +kernel
theorem dX9_text_82 : decode cX9_text 82 = .ok (.iastore, 1) := by decide +kernel
theorem dX9_text_83 : decode cX9_text 83 = .ok (.aload_n 0, 1) := by decide +kernel
theorem dX9_text_84 : decode cX9_text 84 = .ok (.getfield 140, 3) := by decide +kernel
theorem dX9_text_87 : decode cX9_text 87 = .ok (.ifCond .eq 11, 3) := by decide +kernel
theorem dX9_text_90 : decode cX9_text 90 = .ok (.bipush (-10), 2) := by decide +kernel
theorem dX9_text_92 : decode cX9_text 92 = .ok (.aload_n 0, 1) := by decide +kernel
theorem dX9_text_93 : decode cX9_text 93 = .ok (.getfield 126, 3) := by decide +kernel
theorem dX9_text_96 : decode cX9_text 96 = .ok (.isub, 1) := by decide +kernel
theorem dX9_text_97 : decode cX9_text 97 = .ok (.ireturn, 1) := by decide +kernel
theorem dX9_text_98 : decode cX9_text 98 = .ok (.sipush 153, 3) := by decide +kernel
theorem dX9_text_101 : decode cX9_text 101 = .ok (.bipush 121, 2) := by decide +kernel
theorem dX9_text_103 : decode cX9_text 103 = .ok (.iload_n 1, 1) := by decide +kernel
theorem dX9_text_104 : decode cX9_text 104 = .ok (.imul, 1) := by decide +kernel
theorem dX9_text_105 : decode cX9_text 105 = .ok (.iadd, 1) := by decide +kernel
theorem dX9_text_106 : decode cX9_text 106 = .ok (.istore_n 2, 1) := by decide +kernel
theorem dX9_text_107 : decode cX9_text 107 = .ok (.aload_n 0, 1) := by decide +kernel
theorem dX9_text_108 : decode cX9_text 108 = .ok (.getfield 9, 3) := by decide +kernel
theorem dX9_text_111 : decode cX9_text 111 = .ok (.iload_n 2, 1) := by decide +kernel
theorem dX9_text_112 : decode cX9_text 112 = .ok (.aload_n 0, 1) := by decide +kernel
theorem dX9_text_113 : decode cX9_text 113 = .ok (.getfield 130, 3) := by decide +kernel
theorem dX9_text_116 : decode cX9_text 116 = .ok (.iastore, 1) := by decide +kernel
theorem dX9_text_117 : decode cX9_text 117 = .ok (.iconst 0, 1) := by decide +kernel
theorem dX9_text_118 : decode cX9_text 118 = .ok (.istore_n 3, 1) := by decide +kernel
theorem dX9_text_119 : decode cX9_text 119 = .ok (.iload_n 3, 1) := by decide +kernel
theorem dX9_text_120 : decode cX9_text 120 = .ok (.aload_n 0, 1) := by decide +kernel
theorem dX9_text_121 : decode cX9_text 121 = .ok (.getfield 130, 3) := by decide +kernel
theorem dX9_text_124 : decode cX9_text 124 = .ok (.if_icmp .ge 42, 3) := by decide +kernel
theorem dX9_text_127 : decode cX9_text 127 = .ok (.aload_n 0, 1) := by decide +kernel
theorem dX9_text_128 : decode cX9_text 128 = .ok (.getfield 9, 3) := by decide +kernel
theorem dX9_text_131 : decode cX9_text 131 = .ok (.iload_n 2, 1) := by decide +kernel
theorem dX9_text_132 : decode cX9_text 132 = .ok (.iconst 1, 1) := by decide +kernel
theorem dX9_text_133 : decode cX9_text 133 = .ok (.iadd, 1) := by decide +kernel
theorem dX9_text_134 : decode cX9_text 134 = .ok (.iload_n 3, 1) := by decide +kernel
theorem dX9_text_135 : decode cX9_text 135 = .ok (.iadd, 1) := by decide +kernel
theorem dX9_text_136 : decode cX9_text 136 = .ok (.aload_n 0, 1) := by decide +kernel
theorem dX9_text_137 : decode cX9_text 137 = .ok (.getfield 31, 3) := by decide +kernel
theorem dX9_text_140 : decode cX9_text 140 = .ok (.iload_n 3, 1) := by decide +kernel
theorem dX9_text_141 : decode cX9_text 141 = .ok (.iaload, 1) := by decide +kernel
theorem dX9_text_142 : decode cX9_text 142 = .ok (.iastore, 1) := by decide +kernel
theorem dX9_text_143 : decode cX9_text 143 = .ok (.aload_n 0, 1) := by decide +kernel
theorem dX9_text_144 : decode cX9_text 144 = .ok (.getfield 9, 3) := by decide +kernel
theorem dX9_text_147 : decode cX9_text 147 = .ok (.iload_n 2, 1) := by decide +kernel
theorem dX9_text_148 : decode cX9_text 148 = .ok (.bipush 61, 2) := by decide +kernel
theorem dX9_text_150 : decode cX9_text 150 = .ok (.iadd, 1) := by decide +kernel
theorem dX9_text_151 : decode cX9_text 151 = .ok (.iload_n 3, 1) := by decide +kernel
theorem dX9_text_152 : decode cX9_text 152 = .ok (.iadd, 1) := by decide +kernel
theorem dX9_text_153 : decode cX9_text 153 = .ok (.aload_n 0, 1) := by decide +kernel
theorem dX9_text_154 : decode cX9_text 154 = .ok (.getfield 34, 3) := by decide +kernel
theorem dX9_text_157 : decode cX9_text 157 = .ok (.iload_n 3, 1) := by decide +kernel
theorem dX9_text_158 : decode cX9_text 158 = .ok (.iaload, 1) := by decide +kernel
theorem dX9_text_159 : decode cX9_text 159 = .ok (.iastore, 1) := by decide +kernel
theorem dX9_text_160 : decode cX9_text 160 = .ok (.iinc 3 1, 3) := by decide +kernel
theorem dX9_text_163 : decode cX9_text 163 = .ok (.goto (-44), 3) := by decide +kernel
theorem dX9_text_166 : decode cX9_text 166 = .ok (.iconst 1, 1) := by decide +kernel
theorem dX9_text_167 : decode cX9_text 167 = .ok (.ireturn, 1) := by decide +kernel
theorem dX9_untell_0 : decode cX9_untell 0 = .ok (.iload_n 1, 1) := by decide +kernel
theorem dX9_untell_1 : decode cX9_untell 1 = .ok (.iconst 0, 1) := by decide +kernel
theorem dX9_untell_2 : decode cX9_untell 2 = .ok (.iconst 1, 1) := by decide +kernel
theorem dX9_untell_3 : decode cX9_untell 3 = .ok (.invokestatic 60, 3) := by decide +kernel
theorem dX9_untell_6 : decode cX9_untell 6 = .ok (.ifCond .ne 10, 3) := by decide +kernel
theorem dX9_untell_9 : decode cX9_untell 9 = .ok (.aload_n 0, 1) := by decide +kernel
theorem dX9_untell_10 : decode cX9_untell 10 = .ok (.ldc 95, 2) := by decide +kernel
theorem dX9_untell_12 : decode cX9_untell 12 = .ok (.invokevirtual 96, 3) := by decide +kernel
theorem dX9_untell_15 : decode cX9_untell 15 = .ok (.ireturn, 1) := by decide +kernel
theorem dX9_untell_16 : decode cX9_untell 16 = .ok (.aload_n 0, 1) := by decide +kernel
theorem dX9_untell_17 : decode cX9_untell 17 = .ok (.sipush 153, 3) := by decide +kernel
theorem dX9_untell_20 : decode cX9_untell 20 = .ok (.bipush 121, 2) := by decide +kernel
theorem dX9_untell_22 : decode cX9_untell 22 = .ok (.iload_n 1, 1) := by decide +kernel
theorem dX9_untell_23 : decode cX9_untell 23 = .ok (.imul, 1) := by decide +kernel
theorem dX9_untell_24 : decode cX9_untell 24 = .ok (.iadd, 1) := by decide +kernel
theorem dX9_untell_25 : decode cX9_untell 25 = .ok (.iconst 0, 1) := by decide +kernel
theorem dX9_untell_26 : decode cX9_untell 26 = .ok (.invokevirtual 109, 3) := by decide +kernel
theorem dX9_untell_29 : decode cX9_untell 29 = .ok (.ifCond .le 7, 3) := by decide +kernel
theorem dX9_untell_32 : decode cX9_untell 32 = .ok (.iconst 1, 1) := by decide +kernel
theorem dX9_untell_33 : decode cX9_untell 33 = .ok (.goto 4, 3) := by decide +kernel
theorem dX9_untell_36 : decode cX9_untell 36 = .ok (.iconst 0, 1) := by decide +kernel
theorem dX9_untell_37 : decode cX9_untell 37 = .ok (.ireturn, 1) := by decide +kernel
theorem dX9_twoOf_0 : decode cX9_twoOf 0 = .ok (.iload_n 0, 1) := by decide +kernel
theorem dX9_twoOf_1 : decode cX9_twoOf 1 = .ok (.tableswitch 202 37 62 #[143, 188, 202, 202, 202, 127, 119, 202, 123, 202, 131, 202, 202, 202, 202, 202, 202, 202, 202, 202, 202, 202, 202, 155, 166, 177], 119) := by decide +kernel
theorem dX9_twoOf_120 : decode cX9_twoOf 120 = .ok (.iload_n 1, 1) := by decide +kernel
theorem dX9_twoOf_121 : decode cX9_twoOf 121 = .ok (.iload_n 2, 1) := by decide +kernel
theorem dX9_twoOf_122 : decode cX9_twoOf 122 = .ok (.iadd, 1) := by decide +kernel
theorem dX9_twoOf_123 : decode cX9_twoOf 123 = .ok (.ireturn, 1) := by decide +kernel
theorem dX9_twoOf_124 : decode cX9_twoOf 124 = .ok (.iload_n 1, 1) := by decide +kernel
theorem dX9_twoOf_125 : decode cX9_twoOf 125 = .ok (.iload_n 2, 1) := by decide +kernel
theorem dX9_twoOf_126 : decode cX9_twoOf 126 = .ok (.isub, 1) := by decide +kernel
theorem dX9_twoOf_127 : decode cX9_twoOf 127 = .ok (.ireturn, 1) := by decide +kernel
theorem dX9_twoOf_128 : decode cX9_twoOf 128 = .ok (.iload_n 1, 1) := by decide +kernel
theorem dX9_twoOf_129 : decode cX9_twoOf 129 = .ok (.iload_n 2, 1) := by decide +kernel
theorem dX9_twoOf_130 : decode cX9_twoOf 130 = .ok (.imul, 1) := by decide +kernel
theorem dX9_twoOf_131 : decode cX9_twoOf 131 = .ok (.ireturn, 1) := by decide +kernel
theorem dX9_twoOf_132 : decode cX9_twoOf 132 = .ok (.iload_n 2, 1) := by decide +kernel
theorem dX9_twoOf_133 : decode cX9_twoOf 133 = .ok (.ifCond .ne 7, 3) := by decide +kernel
theorem dX9_twoOf_136 : decode cX9_twoOf 136 = .ok (.iconst 0, 1) := by decide +kernel
theorem dX9_twoOf_137 : decode cX9_twoOf 137 = .ok (.goto 6, 3) := by decide +kernel
theorem dX9_twoOf_140 : decode cX9_twoOf 140 = .ok (.iload_n 1, 1) := by decide +kernel
theorem dX9_twoOf_141 : decode cX9_twoOf 141 = .ok (.iload_n 2, 1) := by decide +kernel
theorem dX9_twoOf_142 : decode cX9_twoOf 142 = .ok (.idiv, 1) := by decide +kernel
theorem dX9_twoOf_143 : decode cX9_twoOf 143 = .ok (.ireturn, 1) := by decide +kernel
theorem dX9_twoOf_144 : decode cX9_twoOf 144 = .ok (.iload_n 2, 1) := by decide +kernel
theorem dX9_twoOf_145 : decode cX9_twoOf 145 = .ok (.ifCond .ne 7, 3) := by decide +kernel
theorem dX9_twoOf_148 : decode cX9_twoOf 148 = .ok (.iconst 0, 1) := by decide +kernel
theorem dX9_twoOf_149 : decode cX9_twoOf 149 = .ok (.goto 6, 3) := by decide +kernel
theorem dX9_twoOf_152 : decode cX9_twoOf 152 = .ok (.iload_n 1, 1) := by decide +kernel
theorem dX9_twoOf_153 : decode cX9_twoOf 153 = .ok (.iload_n 2, 1) := by decide +kernel
theorem dX9_twoOf_154 : decode cX9_twoOf 154 = .ok (.irem, 1) := by decide +kernel
theorem dX9_twoOf_155 : decode cX9_twoOf 155 = .ok (.ireturn, 1) := by decide +kernel
theorem dX9_twoOf_156 : decode cX9_twoOf 156 = .ok (.iload_n 1, 1) := by decide +kernel
theorem dX9_twoOf_157 : decode cX9_twoOf 157 = .ok (.iload_n 2, 1) := by decide +kernel
theorem dX9_twoOf_158 : decode cX9_twoOf 158 = .ok (.if_icmp .ge 7, 3) := by decide +kernel
theorem dX9_twoOf_161 : decode cX9_twoOf 161 = .ok (.iconst 1, 1) := by decide +kernel
theorem dX9_twoOf_162 : decode cX9_twoOf 162 = .ok (.goto 4, 3) := by decide +kernel
theorem dX9_twoOf_165 : decode cX9_twoOf 165 = .ok (.iconst 0, 1) := by decide +kernel
theorem dX9_twoOf_166 : decode cX9_twoOf 166 = .ok (.ireturn, 1) := by decide +kernel
theorem dX9_twoOf_167 : decode cX9_twoOf 167 = .ok (.iload_n 1, 1) := by decide +kernel
theorem dX9_twoOf_168 : decode cX9_twoOf 168 = .ok (.iload_n 2, 1) := by decide +kernel
theorem dX9_twoOf_169 : decode cX9_twoOf 169 = .ok (.if_icmp .ne 7, 3) := by decide +kernel
theorem dX9_twoOf_172 : decode cX9_twoOf 172 = .ok (.iconst 1, 1) := by decide +kernel
theorem dX9_twoOf_173 : decode cX9_twoOf 173 = .ok (.goto 4, 3) := by decide +kernel
theorem dX9_twoOf_176 : decode cX9_twoOf 176 = .ok (.iconst 0, 1) := by decide +kernel
theorem dX9_twoOf_177 : decode cX9_twoOf 177 = .ok (.ireturn, 1) := by decide +kernel
theorem dX9_twoOf_178 : decode cX9_twoOf 178 = .ok (.iload_n 1, 1) := by decide +kernel
theorem dX9_twoOf_179 : decode cX9_twoOf 179 = .ok (.iload_n 2, 1) := by decide +kernel
theorem dX9_twoOf_180 : decode cX9_twoOf 180 = .ok (.if_icmp .le 7, 3) := by decide +kernel
theorem dX9_twoOf_183 : decode cX9_twoOf 183 = .ok (.iconst 1, 1) := by decide +kernel
theorem dX9_twoOf_184 : decode cX9_twoOf 184 = .ok (.goto 4, 3) := by decide +kernel
theorem dX9_twoOf_187 : decode cX9_twoOf 187 = .ok (.iconst 0, 1) := by decide +kernel
theorem dX9_twoOf_188 : decode cX9_twoOf 188 = .ok (.ireturn, 1) := by decide +kernel
theorem dX9_twoOf_189 : decode cX9_twoOf 189 = .ok (.iload_n 1, 1) := by decide +kernel
theorem dX9_twoOf_190 : decode cX9_twoOf 190 = .ok (.ifCond .eq 11, 3) := by decide +kernel
theorem dX9_twoOf_193 : decode cX9_twoOf 193 = .ok (.iload_n 2, 1) := by decide +kernel
theorem dX9_twoOf_194 : decode cX9_twoOf 194 = .ok (.ifCond .eq 7, 3) := by decide +kernel
theorem dX9_twoOf_197 : decode cX9_twoOf 197 = .ok (.iconst 1, 1) := by decide +kernel
theorem dX9_twoOf_198 : decode cX9_twoOf 198 = .ok (.goto 4, 3) := by decide +kernel
theorem dX9_twoOf_201 : decode cX9_twoOf 201 = .ok (.iconst 0, 1) := by decide +kernel
theorem dX9_twoOf_202 : decode cX9_twoOf 202 = .ok (.ireturn, 1) := by decide +kernel
theorem dX9_twoOf_203 : decode cX9_twoOf 203 = .ok (.iload_n 1, 1) := by decide +kernel
theorem dX9_twoOf_204 : decode cX9_twoOf 204 = .ok (.ifCond .ne 7, 3) := by decide +kernel
theorem dX9_twoOf_207 : decode cX9_twoOf 207 = .ok (.iload_n 2, 1) := by decide +kernel
theorem dX9_twoOf_208 : decode cX9_twoOf 208 = .ok (.ifCond .eq 7, 3) := by decide +kernel
theorem dX9_twoOf_211 : decode cX9_twoOf 211 = .ok (.iconst 1, 1) := by decide +kernel
theorem dX9_twoOf_212 : decode cX9_twoOf 212 = .ok (.goto 4, 3) := by decide +kernel
theorem dX9_twoOf_215 : decode cX9_twoOf 215 = .ok (.iconst 0, 1) := by decide +kernel
theorem dX9_twoOf_216 : decode cX9_twoOf 216 = .ok (.ireturn, 1) := by decide +kernel
theorem dX9_works_0 : decode cX9_works 0 = .ok (.iconst 0, 1) := by decide +kernel
theorem dX9_works_1 : decode cX9_works 1 = .ok (.istore_n 2, 1) := by decide +kernel
theorem dX9_works_2 : decode cX9_works 2 = .ok (.iconst 0, 1) := by decide +kernel
theorem dX9_works_3 : decode cX9_works 3 = .ok (.istore_n 3, 1) := by decide +kernel
theorem dX9_works_4 : decode cX9_works 4 = .ok (.iload_n 3, 1) := by decide +kernel
theorem dX9_works_5 : decode cX9_works 5 = .ok (.aload_n 0, 1) := by decide +kernel
theorem dX9_works_6 : decode cX9_works 6 = .ok (.getfield 9, 3) := by decide +kernel
theorem dX9_works_9 : decode cX9_works 9 = .ok (.iload_n 1, 1) := by decide +kernel
theorem dX9_works_10 : decode cX9_works 10 = .ok (.iaload, 1) := by decide +kernel
theorem dX9_works_11 : decode cX9_works 11 = .ok (.if_icmp .ge 144, 3) := by decide +kernel
theorem dX9_works_14 : decode cX9_works 14 = .ok (.aload_n 0, 1) := by decide +kernel
theorem dX9_works_15 : decode cX9_works 15 = .ok (.getfield 9, 3) := by decide +kernel
theorem dX9_works_18 : decode cX9_works 18 = .ok (.iload_n 1, 1) := by decide +kernel
theorem dX9_works_19 : decode cX9_works 19 = .ok (.iconst 1, 1) := by decide +kernel
theorem dX9_works_20 : decode cX9_works 20 = .ok (.iadd, 1) := by decide +kernel
theorem dX9_works_21 : decode cX9_works 21 = .ok (.iload_n 3, 1) := by decide +kernel
theorem dX9_works_22 : decode cX9_works 22 = .ok (.iadd, 1) := by decide +kernel
theorem dX9_works_23 : decode cX9_works 23 = .ok (.iaload, 1) := by decide +kernel
theorem dX9_works_24 : decode cX9_works 24 = .ok (.istore 4, 2) := by decide +kernel
theorem dX9_works_26 : decode cX9_works 26 = .ok (.iload 4, 2) := by decide +kernel
theorem dX9_works_28 : decode cX9_works 28 = .ok (.iconst 1, 1) := by decide +kernel
theorem dX9_works_29 : decode cX9_works 29 = .ok (.if_icmp .eq 9, 3) := by decide +kernel
theorem dX9_works_32 : decode cX9_works 32 = .ok (.iload 4, 2) := by decide +kernel
theorem dX9_works_34 : decode cX9_works 34 = .ok (.iconst 2, 1) := by decide +kernel
theorem dX9_works_35 : decode cX9_works 35 = .ok (.if_icmp .ne 51, 3) := by decide +kernel
theorem dX9_works_38 : decode cX9_works 38 = .ok (.aload_n 0, 1) := by decide +kernel
theorem dX9_works_39 : decode cX9_works 39 = .ok (.getfield 40, 3) := by decide +kernel
theorem dX9_works_42 : decode cX9_works 42 = .ok (.iload_n 2, 1) := by decide +kernel
theorem dX9_works_43 : decode cX9_works 43 = .ok (.iload 4, 2) := by decide +kernel
theorem dX9_works_45 : decode cX9_works 45 = .ok (.iconst 1, 1) := by decide +kernel
theorem dX9_works_46 : decode cX9_works 46 = .ok (.if_icmp .ne 17, 3) := by decide +kernel
theorem dX9_works_49 : decode cX9_works 49 = .ok (.aload_n 0, 1) := by decide +kernel
theorem dX9_works_50 : decode cX9_works 50 = .ok (.getfield 9, 3) := by decide +kernel
theorem dX9_works_53 : decode cX9_works 53 = .ok (.iload_n 1, 1) := by decide +kernel
theorem dX9_works_54 : decode cX9_works 54 = .ok (.bipush 61, 2) := by decide +kernel
theorem dX9_works_56 : decode cX9_works 56 = .ok (.iadd, 1) := by decide +kernel
theorem dX9_works_57 : decode cX9_works 57 = .ok (.iload_n 3, 1) := by decide +kernel
theorem dX9_works_58 : decode cX9_works 58 = .ok (.iadd, 1) := by decide +kernel
theorem dX9_works_59 : decode cX9_works 59 = .ok (.iaload, 1) := by decide +kernel
theorem dX9_works_60 : decode cX9_works 60 = .ok (.goto 19, 3) := by decide +kernel
theorem dX9_works_63 : decode cX9_works 63 = .ok (.aload_n 0, 1) := by decide +kernel
theorem dX9_works_64 : decode cX9_works 64 = .ok (.getfield 37, 3) := by decide +kernel
theorem dX9_works_67 : decode cX9_works 67 = .ok (.aload_n 0, 1) := by decide +kernel
theorem dX9_works_68 : decode cX9_works 68 = .ok (.getfield 9, 3) := by decide +kernel
theorem dX9_works_71 : decode cX9_works 71 = .ok (.iload_n 1, 1) := by decide +kernel
theorem dX9_works_72 : decode cX9_works 72 = .ok (.bipush 61, 2) := by decide +kernel
theorem dX9_works_74 : decode cX9_works 74 = .ok (.iadd, 1) := by decide +kernel
theorem dX9_works_75 : decode cX9_works 75 = .ok (.iload_n 3, 1) := by decide +kernel
theorem dX9_works_76 : decode cX9_works 76 = .ok (.iadd, 1) := by decide +kernel
theorem dX9_works_77 : decode cX9_works 77 = .ok (.iaload, 1) := by decide +kernel
theorem dX9_works_78 : decode cX9_works 78 = .ok (.iaload, 1) := by decide +kernel
theorem dX9_works_79 : decode cX9_works 79 = .ok (.iastore, 1) := by decide +kernel
theorem dX9_works_80 : decode cX9_works 80 = .ok (.iinc 2 1, 3) := by decide +kernel
theorem dX9_works_83 : decode cX9_works 83 = .ok (.goto 66, 3) := by decide +kernel
theorem dX9_works_86 : decode cX9_works 86 = .ok (.iload 4, 2) := by decide +kernel
theorem dX9_works_88 : decode cX9_works 88 = .ok (.iconst 3, 1) := by decide +kernel
theorem dX9_works_89 : decode cX9_works 89 = .ok (.if_icmp .ne 30, 3) := by decide +kernel
theorem dX9_works_92 : decode cX9_works 92 = .ok (.aload_n 0, 1) := by decide +kernel
theorem dX9_works_93 : decode cX9_works 93 = .ok (.getfield 40, 3) := by decide +kernel
theorem dX9_works_96 : decode cX9_works 96 = .ok (.iload_n 2, 1) := by decide +kernel
theorem dX9_works_97 : decode cX9_works 97 = .ok (.iconst 1, 1) := by decide +kernel
theorem dX9_works_98 : decode cX9_works 98 = .ok (.isub, 1) := by decide +kernel
theorem dX9_works_99 : decode cX9_works 99 = .ok (.aload_n 0, 1) := by decide +kernel
theorem dX9_works_100 : decode cX9_works 100 = .ok (.getfield 40, 3) := by decide +kernel
theorem dX9_works_103 : decode cX9_works 103 = .ok (.iload_n 2, 1) := by decide +kernel
theorem dX9_works_104 : decode cX9_works 104 = .ok (.iconst 1, 1) := by decide +kernel
theorem dX9_works_105 : decode cX9_works 105 = .ok (.isub, 1) := by decide +kernel
theorem dX9_works_106 : decode cX9_works 106 = .ok (.iaload, 1) := by decide +kernel
theorem dX9_works_107 : decode cX9_works 107 = .ok (.ifCond .ne 7, 3) := by decide +kernel
theorem dX9_works_110 : decode cX9_works 110 = .ok (.iconst 1, 1) := by decide +kernel
theorem dX9_works_111 : decode cX9_works 111 = .ok (.goto 4, 3) := by decide +kernel
theorem dX9_works_114 : decode cX9_works 114 = .ok (.iconst 0, 1) := by decide +kernel
theorem dX9_works_115 : decode cX9_works 115 = .ok (.iastore, 1) := by decide +kernel
theorem dX9_works_116 : decode cX9_works 116 = .ok (.goto 33, 3) := by decide +kernel
theorem dX9_works_119 : decode cX9_works 119 = .ok (.iinc 2 (-1), 3) := by decide +kernel
theorem dX9_works_122 : decode cX9_works 122 = .ok (.aload_n 0, 1) := by decide +kernel
theorem dX9_works_123 : decode cX9_works 123 = .ok (.getfield 40, 3) := by decide +kernel
theorem dX9_works_126 : decode cX9_works 126 = .ok (.iload_n 2, 1) := by decide +kernel
theorem dX9_works_127 : decode cX9_works 127 = .ok (.iconst 1, 1) := by decide +kernel
theorem dX9_works_128 : decode cX9_works 128 = .ok (.isub, 1) := by decide +kernel
theorem dX9_works_129 : decode cX9_works 129 = .ok (.iload 4, 2) := by decide +kernel
theorem dX9_works_131 : decode cX9_works 131 = .ok (.aload_n 0, 1) := by decide +kernel
theorem dX9_works_132 : decode cX9_works 132 = .ok (.getfield 40, 3) := by decide +kernel
theorem dX9_works_135 : decode cX9_works 135 = .ok (.iload_n 2, 1) := by decide +kernel
theorem dX9_works_136 : decode cX9_works 136 = .ok (.iconst 1, 1) := by decide +kernel
theorem dX9_works_137 : decode cX9_works 137 = .ok (.isub, 1) := by decide +kernel
theorem dX9_works_138 : decode cX9_works 138 = .ok (.iaload, 1) := by decide +kernel
theorem dX9_works_139 : decode cX9_works 139 = .ok (.aload_n 0, 1) := by decide +kernel
theorem dX9_works_140 : decode cX9_works 140 = .ok (.getfield 40, 3) := by decide +kernel
theorem dX9_works_143 : decode cX9_works 143 = .ok (.iload_n 2, 1) := by decide +kernel
theorem dX9_works_144 : decode cX9_works 144 = .ok (.iaload, 1) := by decide +kernel
theorem dX9_works_145 : decode cX9_works 145 = .ok (.invokestatic 179, 3) := by decide +kernel
theorem dX9_works_148 : decode cX9_works 148 = .ok (.iastore, 1) := by decide +kernel
theorem dX9_works_149 : decode cX9_works 149 = .ok (.iinc 3 1, 3) := by decide +kernel
theorem dX9_works_152 : decode cX9_works 152 = .ok (.goto (-148), 3) := by decide +kernel
theorem dX9_works_155 : decode cX9_works 155 = .ok (.aload_n 0, 1) := by decide +kernel
theorem dX9_works_156 : decode cX9_works 156 = .ok (.getfield 40, 3) := by decide +kernel
theorem dX9_works_159 : decode cX9_works 159 = .ok (.iconst 0, 1) := by decide +kernel
theorem dX9_works_160 : decode cX9_works 160 = .ok (.iaload, 1) := by decide +kernel
theorem dX9_works_161 : decode cX9_works 161 = .ok (.ireturn, 1) := by decide +kernel
theorem dX9_gives_0 : decode cX9_gives 0 = .ok (.sipush 153, 3) := by decide +kernel
theorem dX9_gives_3 : decode cX9_gives 3 = .ok (.bipush 121, 2) := by decide +kernel
theorem dX9_gives_5 : decode cX9_gives 5 = .ok (.iload_n 1, 1) := by decide +kernel
theorem dX9_gives_6 : decode cX9_gives 6 = .ok (.imul, 1) := by decide +kernel
theorem dX9_gives_7 : decode cX9_gives 7 = .ok (.iadd, 1) := by decide +kernel
theorem dX9_gives_8 : decode cX9_gives 8 = .ok (.istore 5, 2) := by decide +kernel
theorem dX9_gives_10 : decode cX9_gives 10 = .ok (.aload_n 0, 1) := by decide +kernel
theorem dX9_gives_11 : decode cX9_gives 11 = .ok (.getfield 37, 3) := by decide +kernel
theorem dX9_gives_14 : decode cX9_gives 14 = .ok (.iconst 0, 1) := by decide +kernel
theorem dX9_gives_15 : decode cX9_gives 15 = .ok (.iload_n 2, 1) := by decide +kernel
theorem dX9_gives_16 : decode cX9_gives 16 = .ok (.iastore, 1) := by decide +kernel
theorem dX9_gives_17 : decode cX9_gives 17 = .ok (.aload_n 0, 1) := by decide +kernel
theorem dX9_gives_18 : decode cX9_gives 18 = .ok (.getfield 37, 3) := by decide +kernel
theorem dX9_gives_21 : decode cX9_gives 21 = .ok (.iconst 1, 1) := by decide +kernel
theorem dX9_gives_22 : decode cX9_gives 22 = .ok (.iload_n 3, 1) := by decide +kernel
theorem dX9_gives_23 : decode cX9_gives 23 = .ok (.iastore, 1) := by decide +kernel
theorem dX9_gives_24 : decode cX9_gives 24 = .ok (.aload_n 0, 1) := by decide +kernel
theorem dX9_gives_25 : decode cX9_gives 25 = .ok (.getfield 37, 3) := by decide +kernel
theorem dX9_gives_28 : decode cX9_gives 28 = .ok (.iconst 2, 1) := by decide +kernel
theorem dX9_gives_29 : decode cX9_gives 29 = .ok (.iload 4, 2) := by decide +kernel
theorem dX9_gives_31 : decode cX9_gives 31 = .ok (.iastore, 1) := by decide +kernel
theorem dX9_gives_32 : decode cX9_gives 32 = .ok (.aload_n 0, 1) := by decide +kernel
theorem dX9_gives_33 : decode cX9_gives 33 = .ok (.getfield 9, 3) := by decide +kernel
theorem dX9_gives_36 : decode cX9_gives 36 = .ok (.iload 5, 2) := by decide +kernel
theorem dX9_gives_38 : decode cX9_gives 38 = .ok (.iaload, 1) := by decide +kernel
theorem dX9_gives_39 : decode cX9_gives 39 = .ok (.ifCond .le 12, 3) := by decide +kernel
theorem dX9_gives_42 : decode cX9_gives 42 = .ok (.aload_n 0, 1) := by decide +kernel
theorem dX9_gives_43 : decode cX9_gives 43 = .ok (.iload 5, 2) := by decide +kernel
theorem dX9_gives_45 : decode cX9_gives 45 = .ok (.invokevirtual 183, 3) := by decide +kernel
theorem dX9_gives_48 : decode cX9_gives 48 = .ok (.goto 4, 3) := by decide +kernel
theorem dX9_gives_51 : decode cX9_gives 51 = .ok (.iload_n 2, 1) := by decide +kernel
theorem dX9_gives_52 : decode cX9_gives 52 = .ok (.istore 6, 2) := by decide +kernel
theorem dX9_gives_54 : decode cX9_gives 54 = .ok (.iload_n 1, 1) := by decide +kernel
theorem dX9_gives_55 : decode cX9_gives 55 = .ok (.ifCond .ne 14, 3) := by decide +kernel
theorem dX9_gives_58 : decode cX9_gives 58 = .ok (.iload 6, 2) := by decide +kernel
theorem dX9_gives_60 : decode cX9_gives 60 = .ok (.iconst 0, 1) := by decide +kernel
theorem dX9_gives_61 : decode cX9_gives 61 = .ok (.bipush 19, 2) := by decide +kernel
theorem dX9_gives_63 : decode cX9_gives 63 = .ok (.invokestatic 186, 3) := by decide +kernel
theorem dX9_gives_66 : decode cX9_gives 66 = .ok (.goto 11, 3) := by decide +kernel
theorem dX9_gives_69 : decode cX9_gives 69 = .ok (.iload 6, 2) := by decide +kernel
theorem dX9_gives_71 : decode cX9_gives 71 = .ok (.iconst 0, 1) := by decide +kernel
theorem dX9_gives_72 : decode cX9_gives 72 = .ok (.bipush 99, 2) := by decide +kernel
theorem dX9_gives_74 : decode cX9_gives 74 = .ok (.invokestatic 186, 3) := by decide +kernel
theorem dX9_gives_77 : decode cX9_gives 77 = .ok (.ireturn, 1) := by decide +kernel
theorem dX9_law_0 : decode cX9_law 0 = .ok (.iload_n 1, 1) := by decide +kernel
theorem dX9_law_1 : decode cX9_law 1 = .ok (.iconst 0, 1) := by decide +kernel
theorem dX9_law_2 : decode cX9_law 2 = .ok (.iconst 1, 1) := by decide +kernel
theorem dX9_law_3 : decode cX9_law 3 = .ok (.invokestatic 60, 3) := by decide +kernel
theorem dX9_law_6 : decode cX9_law 6 = .ok (.ifCond .eq 15, 3) := by decide +kernel
theorem dX9_law_9 : decode cX9_law 9 = .ok (.aload_n 0, 1) := by decide +kernel
theorem dX9_law_10 : decode cX9_law 10 = .ok (.iload_n 1, 1) := by decide +kernel
theorem dX9_law_11 : decode cX9_law 11 = .ok (.iload_n 2, 1) := by decide +kernel
theorem dX9_law_12 : decode cX9_law 12 = .ok (.iload_n 3, 1) := by decide +kernel
theorem dX9_law_13 : decode cX9_law 13 = .ok (.iload 4, 2) := by decide +kernel
theorem dX9_law_15 : decode cX9_law 15 = .ok (.invokevirtual 85, 3) := by decide +kernel
theorem dX9_law_18 : decode cX9_law 18 = .ok (.goto 9, 3) := by decide +kernel
theorem dX9_law_21 : decode cX9_law 21 = .ok (.aload_n 0, 1) := by decide +kernel
theorem dX9_law_22 : decode cX9_law 22 = .ok (.ldc 95, 2) := by decide +kernel
theorem dX9_law_24 : decode cX9_law 24 = .ok (.invokevirtual 96, 3) := by decide +kernel
theorem dX9_law_27 : decode cX9_law 27 = .ok (.ireturn, 1) := by decide +kernel
theorem dX9_letsGo_0 : decode cX9_letsGo 0 = .ok (.aload_n 0, 1) := by decide +kernel
theorem dX9_letsGo_1 : decode cX9_letsGo 1 = .ok (.iload_n 1, 1) := by decide +kernel
theorem dX9_letsGo_2 : decode cX9_letsGo 2 = .ok (.invokevirtual 103, 3) := by decide +kernel
theorem dX9_letsGo_5 : decode cX9_letsGo 5 = .ok (.aload_n 0, 1) := by decide +kernel
theorem dX9_letsGo_6 : decode cX9_letsGo 6 = .ok (.iload_n 1, 1) := by decide +kernel
theorem dX9_letsGo_7 : decode cX9_letsGo 7 = .ok (.invokevirtual 106, 3) := by decide +kernel
theorem dX9_letsGo_10 : decode cX9_letsGo 10 = .ok (.if_icmp .gt 4, 3) := by decide +kernel
theorem dX9_letsGo_13 : decode cX9_letsGo 13 = .ok (.return_, 1) := by decide +kernel
theorem dX9_letsGo_14 : decode cX9_letsGo 14 = .ok (.iconst (-1), 1) := by decide +kernel
theorem dX9_letsGo_15 : decode cX9_letsGo 15 = .ok (.istore_n 2, 1) := by decide +kernel
theorem dX9_letsGo_16 : decode cX9_letsGo 16 = .ok (.iconst (-1), 1) := by decide +kernel
theorem dX9_letsGo_17 : decode cX9_letsGo 17 = .ok (.istore_n 3, 1) := by decide +kernel
theorem dX9_letsGo_18 : decode cX9_letsGo 18 = .ok (.iconst 0, 1) := by decide +kernel
theorem dX9_letsGo_19 : decode cX9_letsGo 19 = .ok (.istore 4, 2) := by decide +kernel
theorem dX9_letsGo_21 : decode cX9_letsGo 21 = .ok (.iload 4, 2) := by decide +kernel
theorem dX9_letsGo_23 : decode cX9_letsGo 23 = .ok (.aload_n 0, 1) := by decide +kernel
theorem dX9_letsGo_24 : decode cX9_letsGo 24 = .ok (.getfield 9, 3) := by decide +kernel
theorem dX9_letsGo_27 : decode cX9_letsGo 27 = .ok (.iconst 3, 1) := by decide +kernel
theorem dX9_letsGo_28 : decode cX9_letsGo 28 = .ok (.iaload, 1) := by decide +kernel
theorem dX9_letsGo_29 : decode cX9_letsGo 29 = .ok (.if_icmp .ge 59, 3) := by decide +kernel
theorem dX9_letsGo_32 : decode cX9_letsGo 32 = .ok (.aload_n 0, 1) := by decide +kernel
theorem dX9_letsGo_33 : decode cX9_letsGo 33 = .ok (.iload 4, 2) := by decide +kernel
theorem dX9_letsGo_35 : decode cX9_letsGo 35 = .ok (.iconst 3, 1) := by decide +kernel
theorem dX9_letsGo_36 : decode cX9_letsGo 36 = .ok (.invokevirtual 68, 3) := by decide +kernel
theorem dX9_letsGo_39 : decode cX9_letsGo 39 = .ok (.iload_n 1, 1) := by decide +kernel
theorem dX9_letsGo_40 : decode cX9_letsGo 40 = .ok (.if_icmp .ne 13, 3) := by decide +kernel
theorem dX9_letsGo_43 : decode cX9_letsGo 43 = .ok (.aload_n 0, 1) := by decide +kernel
theorem dX9_letsGo_44 : decode cX9_letsGo 44 = .ok (.iload_n 1, 1) := by decide +kernel
theorem dX9_letsGo_45 : decode cX9_letsGo 45 = .ok (.iload 4, 2) := by decide +kernel
theorem dX9_letsGo_47 : decode cX9_letsGo 47 = .ok (.invokevirtual 89, 3) := by decide +kernel
theorem dX9_letsGo_50 : decode cX9_letsGo 50 = .ok (.goto 4, 3) := by decide +kernel
theorem dX9_letsGo_53 : decode cX9_letsGo 53 = .ok (.iconst (-1), 1) := by decide +kernel
theorem dX9_letsGo_54 : decode cX9_letsGo 54 = .ok (.istore 5, 2) := by decide +kernel
theorem dX9_letsGo_56 : decode cX9_letsGo 56 = .ok (.iload 5, 2) := by decide +kernel
theorem dX9_letsGo_58 : decode cX9_letsGo 58 = .ok (.iload_n 3, 1) := by decide +kernel
theorem dX9_letsGo_59 : decode cX9_letsGo 59 = .ok (.if_icmp .le 8, 3) := by decide +kernel
theorem dX9_letsGo_62 : decode cX9_letsGo 62 = .ok (.iload 4, 2) := by decide +kernel
theorem dX9_letsGo_64 : decode cX9_letsGo 64 = .ok (.goto 4, 3) := by decide +kernel
theorem dX9_letsGo_67 : decode cX9_letsGo 67 = .ok (.iload_n 2, 1) := by decide +kernel
theorem dX9_letsGo_68 : decode cX9_letsGo 68 = .ok (.istore_n 2, 1) := by decide +kernel
theorem dX9_letsGo_69 : decode cX9_letsGo 69 = .ok (.iload 5, 2) := by decide +kernel
theorem dX9_letsGo_71 : decode cX9_letsGo 71 = .ok (.iload_n 3, 1) := by decide +kernel
theorem dX9_letsGo_72 : decode cX9_letsGo 72 = .ok (.if_icmp .le 8, 3) := by decide +kernel
theorem dX9_letsGo_75 : decode cX9_letsGo 75 = .ok (.iload 5, 2) := by decide +kernel
theorem dX9_letsGo_77 : decode cX9_letsGo 77 = .ok (.goto 4, 3) := by decide +kernel
theorem dX9_letsGo_80 : decode cX9_letsGo 80 = .ok (.iload_n 3, 1) := by decide +kernel
theorem dX9_letsGo_81 : decode cX9_letsGo 81 = .ok (.istore_n 3, 1) := by decide +kernel
theorem dX9_letsGo_82 : decode cX9_letsGo 82 = .ok (.iinc 4 1, 3) := by decide +kernel
theorem dX9_letsGo_85 : decode cX9_letsGo 85 = .ok (.goto (-64), 3) := by decide +kernel
theorem dX9_letsGo_88 : decode cX9_letsGo 88 = .ok (.iload_n 2, 1) := by decide +kernel
theorem dX9_letsGo_89 : decode cX9_letsGo 89 = .ok (.ifCond .lt 10, 3) := by decide +kernel
theorem dX9_letsGo_92 : decode cX9_letsGo 92 = .ok (.aload_n 0, 1) := by decide +kernel
theorem dX9_letsGo_93 : decode cX9_letsGo 93 = .ok (.iload_n 2, 1) := by decide +kernel
theorem dX9_letsGo_94 : decode cX9_letsGo 94 = .ok (.iconst 3, 1) := by decide +kernel
theorem dX9_letsGo_95 : decode cX9_letsGo 95 = .ok (.iconst (-1), 1) := by decide +kernel
theorem dX9_letsGo_96 : decode cX9_letsGo 96 = .ok (.invokevirtual 117, 3) := by decide +kernel
theorem dX9_letsGo_99 : decode cX9_letsGo 99 = .ok (.return_, 1) := by decide +kernel
theorem dX9_beyond_0 : decode cX9_beyond 0 = .ok (.aload_n 0, 1) := by decide +kernel
theorem dX9_beyond_1 : decode cX9_beyond 1 = .ok (.iload_n 1, 1) := by decide +kernel
theorem dX9_beyond_2 : decode cX9_beyond 2 = .ok (.iconst 0, 1) := by decide +kernel
theorem dX9_beyond_3 : decode cX9_beyond 3 = .ok (.invokevirtual 68, 3) := by decide +kernel
theorem dX9_beyond_6 : decode cX9_beyond 6 = .ok (.iload_n 2, 1) := by decide +kernel
theorem dX9_beyond_7 : decode cX9_beyond 7 = .ok (.if_icmp .ne 12, 3) := by decide +kernel
theorem dX9_beyond_10 : decode cX9_beyond 10 = .ok (.aload_n 0, 1) := by decide +kernel
theorem dX9_beyond_11 : decode cX9_beyond 11 = .ok (.iload_n 1, 1) := by decide +kernel
theorem dX9_beyond_12 : decode cX9_beyond 12 = .ok (.iconst 1, 1) := by decide +kernel
theorem dX9_beyond_13 : decode cX9_beyond 13 = .ok (.invokevirtual 68, 3) := by decide +kernel
theorem dX9_beyond_16 : decode cX9_beyond 16 = .ok (.goto 23, 3) := by decide +kernel
theorem dX9_beyond_19 : decode cX9_beyond 19 = .ok (.aload_n 0, 1) := by decide +kernel
theorem dX9_beyond_20 : decode cX9_beyond 20 = .ok (.iload_n 1, 1) := by decide +kernel
theorem dX9_beyond_21 : decode cX9_beyond 21 = .ok (.iconst 1, 1) := by decide +kernel
theorem dX9_beyond_22 : decode cX9_beyond 22 = .ok (.invokevirtual 68, 3) := by decide +kernel
theorem dX9_beyond_25 : decode cX9_beyond 25 = .ok (.iload_n 2, 1) := by decide +kernel
theorem dX9_beyond_26 : decode cX9_beyond 26 = .ok (.if_icmp .ne 12, 3) := by decide +kernel
theorem dX9_beyond_29 : decode cX9_beyond 29 = .ok (.aload_n 0, 1) := by decide +kernel
theorem dX9_beyond_30 : decode cX9_beyond 30 = .ok (.iload_n 1, 1) := by decide +kernel
theorem dX9_beyond_31 : decode cX9_beyond 31 = .ok (.iconst 0, 1) := by decide +kernel
theorem dX9_beyond_32 : decode cX9_beyond 32 = .ok (.invokevirtual 68, 3) := by decide +kernel
theorem dX9_beyond_35 : decode cX9_beyond 35 = .ok (.goto 4, 3) := by decide +kernel
theorem dX9_beyond_38 : decode cX9_beyond 38 = .ok (.iconst (-1), 1) := by decide +kernel
theorem dX9_beyond_39 : decode cX9_beyond 39 = .ok (.ireturn, 1) := by decide +kernel
theorem dX9_strays_0 : decode cX9_strays 0 = .ok (.aload_n 0, 1) := by decide +kernel
theorem dX9_strays_1 : decode cX9_strays 1 = .ok (.getfield 9, 3) := by decide +kernel
theorem dX9_strays_4 : decode cX9_strays 4 = .ok (.bipush 63, 2) := by decide +kernel
theorem dX9_strays_6 : decode cX9_strays 6 = .ok (.iload_n 1, 1) := by decide +kernel
theorem dX9_strays_7 : decode cX9_strays 7 = .ok (.iadd, 1) := by decide +kernel
theorem dX9_strays_8 : decode cX9_strays 8 = .ok (.iaload, 1) := by decide +kernel
theorem dX9_strays_9 : decode cX9_strays 9 = .ok (.istore_n 2, 1) := by decide +kernel
theorem dX9_strays_10 : decode cX9_strays 10 = .ok (.iload_n 2, 1) := by decide +kernel
theorem dX9_strays_11 : decode cX9_strays 11 = .ok (.istore_n 3, 1) := by decide +kernel
theorem dX9_strays_12 : decode cX9_strays 12 = .ok (.aload_n 0, 1) := by decide +kernel
theorem dX9_strays_13 : decode cX9_strays 13 = .ok (.iload_n 2, 1) := by decide +kernel
theorem dX9_strays_14 : decode cX9_strays 14 = .ok (.invokevirtual 189, 3) := by decide +kernel
theorem dX9_strays_17 : decode cX9_strays 17 = .ok (.istore 4, 2) := by decide +kernel
theorem dX9_strays_19 : decode cX9_strays 19 = .ok (.iconst 0, 1) := by decide +kernel
theorem dX9_strays_20 : decode cX9_strays 20 = .ok (.istore 5, 2) := by decide +kernel
theorem dX9_strays_22 : decode cX9_strays 22 = .ok (.iload 5, 2) := by decide +kernel
theorem dX9_strays_24 : decode cX9_strays 24 = .ok (.aload_n 0, 1) := by decide +kernel
theorem dX9_strays_25 : decode cX9_strays 25 = .ok (.getfield 9, 3) := by decide +kernel
theorem dX9_strays_28 : decode cX9_strays 28 = .ok (.iconst 3, 1) := by decide +kernel
theorem dX9_strays_29 : decode cX9_strays 29 = .ok (.iaload, 1) := by decide +kernel
theorem dX9_strays_30 : decode cX9_strays 30 = .ok (.if_icmp .ge 78, 3) := by decide +kernel
theorem dX9_strays_33 : decode cX9_strays 33 = .ok (.aload_n 0, 1) := by decide +kernel
theorem dX9_strays_34 : decode cX9_strays 34 = .ok (.iload 5, 2) := by decide +kernel
theorem dX9_strays_36 : decode cX9_strays 36 = .ok (.invokevirtual 72, 3) := by decide +kernel
theorem dX9_strays_39 : decode cX9_strays 39 = .ok (.ifCond .eq 13, 3) := by decide +kernel
theorem dX9_strays_42 : decode cX9_strays 42 = .ok (.aload_n 0, 1) := by decide +kernel
theorem dX9_strays_43 : decode cX9_strays 43 = .ok (.iload 5, 2) := by decide +kernel
theorem dX9_strays_45 : decode cX9_strays 45 = .ok (.iload_n 2, 1) := by decide +kernel
theorem dX9_strays_46 : decode cX9_strays 46 = .ok (.invokevirtual 192, 3) := by decide +kernel
theorem dX9_strays_49 : decode cX9_strays 49 = .ok (.goto 4, 3) := by decide +kernel
theorem dX9_strays_52 : decode cX9_strays 52 = .ok (.iconst (-1), 1) := by decide +kernel
theorem dX9_strays_53 : decode cX9_strays 53 = .ok (.istore 6, 2) := by decide +kernel
theorem dX9_strays_55 : decode cX9_strays 55 = .ok (.iload 6, 2) := by decide +kernel
theorem dX9_strays_57 : decode cX9_strays 57 = .ok (.ifCond .ge 7, 3) := by decide +kernel
theorem dX9_strays_60 : decode cX9_strays 60 = .ok (.iconst (-1), 1) := by decide +kernel
theorem dX9_strays_61 : decode cX9_strays 61 = .ok (.goto 9, 3) := by decide +kernel
theorem dX9_strays_64 : decode cX9_strays 64 = .ok (.aload_n 0, 1) := by decide +kernel
theorem dX9_strays_65 : decode cX9_strays 65 = .ok (.iload 6, 2) := by decide +kernel
theorem dX9_strays_67 : decode cX9_strays 67 = .ok (.invokevirtual 189, 3) := by decide +kernel
theorem dX9_strays_70 : decode cX9_strays 70 = .ok (.istore 7, 2) := by decide +kernel
theorem dX9_strays_72 : decode cX9_strays 72 = .ok (.iload 7, 2) := by decide +kernel
theorem dX9_strays_74 : decode cX9_strays 74 = .ok (.iload 4, 2) := by decide +kernel
theorem dX9_strays_76 : decode cX9_strays 76 = .ok (.if_icmp .le 8, 3) := by decide +kernel
theorem dX9_strays_79 : decode cX9_strays 79 = .ok (.iload 6, 2) := by decide +kernel
theorem dX9_strays_81 : decode cX9_strays 81 = .ok (.goto 4, 3) := by decide +kernel
theorem dX9_strays_84 : decode cX9_strays 84 = .ok (.iload_n 3, 1) := by decide +kernel
theorem dX9_strays_85 : decode cX9_strays 85 = .ok (.istore_n 3, 1) := by decide +kernel
theorem dX9_strays_86 : decode cX9_strays 86 = .ok (.iload 7, 2) := by decide +kernel
theorem dX9_strays_88 : decode cX9_strays 88 = .ok (.iload 4, 2) := by decide +kernel
theorem dX9_strays_90 : decode cX9_strays 90 = .ok (.if_icmp .le 8, 3) := by decide +kernel
theorem dX9_strays_93 : decode cX9_strays 93 = .ok (.iload 7, 2) := by decide +kernel
theorem dX9_strays_95 : decode cX9_strays 95 = .ok (.goto 5, 3) := by decide +kernel
theorem dX9_strays_98 : decode cX9_strays 98 = .ok (.iload 4, 2) := by decide +kernel
theorem dX9_strays_100 : decode cX9_strays 100 = .ok (.istore 4, 2) := by decide +kernel
theorem dX9_strays_102 : decode cX9_strays 102 = .ok (.iinc 5 1, 3) := by decide +kernel
theorem dX9_strays_105 : decode cX9_strays 105 = .ok (.goto (-83), 3) := by decide +kernel
theorem dX9_strays_108 : decode cX9_strays 108 = .ok (.aload_n 0, 1) := by decide +kernel
theorem dX9_strays_109 : decode cX9_strays 109 = .ok (.getfield 9, 3) := by decide +kernel
theorem dX9_strays_112 : decode cX9_strays 112 = .ok (.iconst 5, 1) := by decide +kernel
theorem dX9_strays_113 : decode cX9_strays 113 = .ok (.aload_n 0, 1) := by decide +kernel
theorem dX9_strays_114 : decode cX9_strays 114 = .ok (.getfield 9, 3) := by decide +kernel
theorem dX9_strays_117 : decode cX9_strays 117 = .ok (.iconst 5, 1) := by decide +kernel
theorem dX9_strays_118 : decode cX9_strays 118 = .ok (.iaload, 1) := by decide +kernel
theorem dX9_strays_119 : decode cX9_strays 119 = .ok (.iload_n 3, 1) := by decide +kernel
theorem dX9_strays_120 : decode cX9_strays 120 = .ok (.iload_n 2, 1) := by decide +kernel
theorem dX9_strays_121 : decode cX9_strays 121 = .ok (.if_icmp .ne 7, 3) := by decide +kernel
theorem dX9_strays_124 : decode cX9_strays 124 = .ok (.iconst 0, 1) := by decide +kernel
theorem dX9_strays_125 : decode cX9_strays 125 = .ok (.goto 4, 3) := by decide +kernel
theorem dX9_strays_128 : decode cX9_strays 128 = .ok (.iconst 1, 1) := by decide +kernel
theorem dX9_strays_129 : decode cX9_strays 129 = .ok (.iadd, 1) := by decide +kernel
theorem dX9_strays_130 : decode cX9_strays 130 = .ok (.iconst 0, 1) := by decide +kernel
theorem dX9_strays_131 : decode cX9_strays 131 = .ok (.sipush 9999, 3) := by decide +kernel
theorem dX9_strays_134 : decode cX9_strays 134 = .ok (.invokestatic 186, 3) := by decide +kernel
theorem dX9_strays_137 : decode cX9_strays 137 = .ok (.iastore, 1) := by decide +kernel
theorem dX9_strays_138 : decode cX9_strays 138 = .ok (.aload_n 0, 1) := by decide +kernel
theorem dX9_strays_139 : decode cX9_strays 139 = .ok (.getfield 9, 3) := by decide +kernel
theorem dX9_strays_142 : decode cX9_strays 142 = .ok (.bipush 63, 2) := by decide +kernel
theorem dX9_strays_144 : decode cX9_strays 144 = .ok (.iload_n 1, 1) := by decide +kernel
theorem dX9_strays_145 : decode cX9_strays 145 = .ok (.iadd, 1) := by decide +kernel
theorem dX9_strays_146 : decode cX9_strays 146 = .ok (.iload_n 3, 1) := by decide +kernel
theorem dX9_strays_147 : decode cX9_strays 147 = .ok (.iastore, 1) := by decide +kernel
theorem dX9_strays_148 : decode cX9_strays 148 = .ok (.aload_n 0, 1) := by decide +kernel
theorem dX9_strays_149 : decode cX9_strays 149 = .ok (.getfield 9, 3) := by decide +kernel
theorem dX9_strays_152 : decode cX9_strays 152 = .ok (.bipush 8, 2) := by decide +kernel
theorem dX9_strays_154 : decode cX9_strays 154 = .ok (.iload_n 3, 1) := by decide +kernel
theorem dX9_strays_155 : decode cX9_strays 155 = .ok (.iadd, 1) := by decide +kernel
theorem dX9_strays_156 : decode cX9_strays 156 = .ok (.aload_n 0, 1) := by decide +kernel
theorem dX9_strays_157 : decode cX9_strays 157 = .ok (.getfield 9, 3) := by decide +kernel
theorem dX9_strays_160 : decode cX9_strays 160 = .ok (.bipush 8, 2) := by decide +kernel
theorem dX9_strays_162 : decode cX9_strays 162 = .ok (.iload_n 3, 1) := by decide +kernel
theorem dX9_strays_163 : decode cX9_strays 163 = .ok (.iadd, 1) := by decide +kernel
theorem dX9_strays_164 : decode cX9_strays 164 = .ok (.iaload, 1) := by decide +kernel
theorem dX9_strays_165 : decode cX9_strays 165 = .ok (.iconst 1, 1) := by decide +kernel
theorem dX9_strays_166 : decode cX9_strays 166 = .ok (.isub, 1) := by decide +kernel
theorem dX9_strays_167 : decode cX9_strays 167 = .ok (.iconst 0, 1) := by decide +kernel
theorem dX9_strays_168 : decode cX9_strays 168 = .ok (.bipush 99, 2) := by decide +kernel
theorem dX9_strays_170 : decode cX9_strays 170 = .ok (.invokestatic 186, 3) := by decide +kernel
theorem dX9_strays_173 : decode cX9_strays 173 = .ok (.iastore, 1) := by decide +kernel
theorem dX9_strays_174 : decode cX9_strays 174 = .ok (.return_, 1) := by decide +kernel
theorem dX9_goes_0 : decode cX9_goes 0 = .ok (.iconst 0, 1) := by decide +kernel
theorem dX9_goes_1 : decode cX9_goes 1 = .ok (.istore_n 1, 1) := by decide +kernel
theorem dX9_goes_2 : decode cX9_goes 2 = .ok (.iload_n 1, 1) := by decide +kernel
theorem dX9_goes_3 : decode cX9_goes 3 = .ok (.aload_n 0, 1) := by decide +kernel
theorem dX9_goes_4 : decode cX9_goes 4 = .ok (.getfield 9, 3) := by decide +kernel
theorem dX9_goes_7 : decode cX9_goes 7 = .ok (.iconst 2, 1) := by decide +kernel
theorem dX9_goes_8 : decode cX9_goes 8 = .ok (.iaload, 1) := by decide +kernel
theorem dX9_goes_9 : decode cX9_goes 9 = .ok (.if_icmp .ge 14, 3) := by decide +kernel
theorem dX9_goes_12 : decode cX9_goes 12 = .ok (.aload_n 0, 1) := by decide +kernel
theorem dX9_goes_13 : decode cX9_goes 13 = .ok (.iload_n 1, 1) := by decide +kernel
theorem dX9_goes_14 : decode cX9_goes 14 = .ok (.invokevirtual 195, 3) := by decide +kernel
theorem dX9_goes_17 : decode cX9_goes 17 = .ok (.iinc 1 1, 3) := by decide +kernel
theorem dX9_goes_20 : decode cX9_goes 20 = .ok (.goto (-18), 3) := by decide +kernel
theorem dX9_goes_23 : decode cX9_goes 23 = .ok (.iconst 0, 1) := by decide +kernel
theorem dX9_goes_24 : decode cX9_goes 24 = .ok (.istore_n 1, 1) := by decide +kernel
theorem dX9_goes_25 : decode cX9_goes 25 = .ok (.iload_n 1, 1) := by decide +kernel
theorem dX9_goes_26 : decode cX9_goes 26 = .ok (.aload_n 0, 1) := by decide +kernel
theorem dX9_goes_27 : decode cX9_goes 27 = .ok (.getfield 9, 3) := by decide +kernel
theorem dX9_goes_30 : decode cX9_goes 30 = .ok (.iconst 4, 1) := by decide +kernel
theorem dX9_goes_31 : decode cX9_goes 31 = .ok (.iaload, 1) := by decide +kernel
theorem dX9_goes_32 : decode cX9_goes 32 = .ok (.if_icmp .ge 14, 3) := by decide +kernel
theorem dX9_goes_35 : decode cX9_goes 35 = .ok (.aload_n 0, 1) := by decide +kernel
theorem dX9_goes_36 : decode cX9_goes 36 = .ok (.iload_n 1, 1) := by decide +kernel
theorem dX9_goes_37 : decode cX9_goes 37 = .ok (.invokevirtual 198, 3) := by decide +kernel
theorem dX9_goes_40 : decode cX9_goes 40 = .ok (.iinc 1 1, 3) := by decide +kernel
theorem dX9_goes_43 : decode cX9_goes 43 = .ok (.goto (-18), 3) := by decide +kernel
theorem dX9_goes_46 : decode cX9_goes 46 = .ok (.aload_n 0, 1) := by decide +kernel
theorem dX9_goes_47 : decode cX9_goes 47 = .ok (.getfield 9, 3) := by decide +kernel
theorem dX9_goes_50 : decode cX9_goes 50 = .ok (.iconst 0, 1) := by decide +kernel
theorem dX9_goes_51 : decode cX9_goes 51 = .ok (.dup2, 1) := by decide +kernel
theorem dX9_goes_52 : decode cX9_goes 52 = .ok (.iaload, 1) := by decide +kernel
theorem dX9_goes_53 : decode cX9_goes 53 = .ok (.iconst 1, 1) := by decide +kernel
theorem dX9_goes_54 : decode cX9_goes 54 = .ok (.iadd, 1) := by decide +kernel
theorem dX9_goes_55 : decode cX9_goes 55 = .ok (.iastore, 1) := by decide +kernel
theorem dX9_goes_56 : decode cX9_goes 56 = .ok (.return_, 1) := by decide +kernel
theorem dX9_hours_0 : decode cX9_hours 0 = .ok (.iload_n 1, 1) := by decide +kernel
theorem dX9_hours_1 : decode cX9_hours 1 = .ok (.iconst 1, 1) := by decide +kernel
theorem dX9_hours_2 : decode cX9_hours 2 = .ok (.bipush 60, 2) := by decide +kernel
theorem dX9_hours_4 : decode cX9_hours 4 = .ok (.invokestatic 60, 3) := by decide +kernel
theorem dX9_hours_7 : decode cX9_hours 7 = .ok (.ifCond .ne 10, 3) := by decide +kernel
theorem dX9_hours_10 : decode cX9_hours 10 = .ok (.aload_n 0, 1) := by decide +kernel
theorem dX9_hours_11 : decode cX9_hours 11 = .ok (.ldc 95, 2) := by decide +kernel
theorem dX9_hours_13 : decode cX9_hours 13 = .ok (.invokevirtual 96, 3) := by decide +kernel
theorem dX9_hours_16 : decode cX9_hours 16 = .ok (.ireturn, 1) := by decide +kernel
theorem dX9_hours_17 : decode cX9_hours 17 = .ok (.aload_n 0, 1) := by decide +kernel
theorem dX9_hours_18 : decode cX9_hours 18 = .ok (.getfield 9, 3) := by decide +kernel
theorem dX9_hours_21 : decode cX9_hours 21 = .ok (.iconst 0, 1) := by decide +kernel
theorem dX9_hours_22 : decode cX9_hours 22 = .ok (.iaload, 1) := by decide +kernel
theorem dX9_hours_23 : decode cX9_hours 23 = .ok (.iload_n 1, 1) := by decide +kernel
theorem dX9_hours_24 : decode cX9_hours 24 = .ok (.iadd, 1) := by decide +kernel
theorem dX9_hours_25 : decode cX9_hours 25 = .ok (.sipush 9999, 3) := by decide +kernel
theorem dX9_hours_28 : decode cX9_hours 28 = .ok (.if_icmp .le 10, 3) := by decide +kernel
theorem dX9_hours_31 : decode cX9_hours 31 = .ok (.aload_n 0, 1) := by decide +kernel
theorem dX9_hours_32 : decode cX9_hours 32 = .ok (.ldc 201, 2) := by decide +kernel
theorem dX9_hours_34 : decode cX9_hours 34 = .ok (.invokevirtual 96, 3) := by decide +kernel
theorem dX9_hours_37 : decode cX9_hours 37 = .ok (.ireturn, 1) := by decide +kernel
theorem dX9_hours_38 : decode cX9_hours 38 = .ok (.iconst 0, 1) := by decide +kernel
theorem dX9_hours_39 : decode cX9_hours 39 = .ok (.istore_n 2, 1) := by decide +kernel
theorem dX9_hours_40 : decode cX9_hours 40 = .ok (.iload_n 2, 1) := by decide +kernel
theorem dX9_hours_41 : decode cX9_hours 41 = .ok (.iload_n 1, 1) := by decide +kernel
theorem dX9_hours_42 : decode cX9_hours 42 = .ok (.if_icmp .ge 13, 3) := by decide +kernel
theorem dX9_hours_45 : decode cX9_hours 45 = .ok (.aload_n 0, 1) := by decide +kernel
theorem dX9_hours_46 : decode cX9_hours 46 = .ok (.invokevirtual 202, 3) := by decide +kernel
theorem dX9_hours_49 : decode cX9_hours 49 = .ok (.iinc 2 1, 3) := by decide +kernel
theorem dX9_hours_52 : decode cX9_hours 52 = .ok (.goto (-12), 3) := by decide +kernel
theorem dX9_hours_55 : decode cX9_hours 55 = .ok (.aload_n 0, 1) := by decide +kernel
theorem dX9_hours_56 : decode cX9_hours 56 = .ok (.invokevirtual 205, 3) := by decide +kernel
theorem dX9_hours_59 : decode cX9_hours 59 = .ok (.ireturn, 1) := by decide +kernel
theorem dX9_draw_0 : decode cX9_draw 0 = .ok (.aload_n 0, 1) := by decide +kernel
theorem dX9_draw_1 : decode cX9_draw 1 = .ok (.getfield 9, 3) := by decide +kernel
theorem dX9_draw_4 : decode cX9_draw 4 = .ok (.iconst 1, 1) := by decide +kernel
theorem dX9_draw_5 : decode cX9_draw 5 = .ok (.aload_n 0, 1) := by decide +kernel
theorem dX9_draw_6 : decode cX9_draw 6 = .ok (.getfield 9, 3) := by decide +kernel
theorem dX9_draw_9 : decode cX9_draw 9 = .ok (.iconst 1, 1) := by decide +kernel
theorem dX9_draw_10 : decode cX9_draw 10 = .ok (.iaload, 1) := by decide +kernel
theorem dX9_draw_11 : decode cX9_draw 11 = .ok (.ldc 207, 2) := by decide +kernel
theorem dX9_draw_13 : decode cX9_draw 13 = .ok (.imul, 1) := by decide +kernel
theorem dX9_draw_14 : decode cX9_draw 14 = .ok (.sipush 12345, 3) := by decide +kernel
theorem dX9_draw_17 : decode cX9_draw 17 = .ok (.iadd, 1) := by decide +kernel
theorem dX9_draw_18 : decode cX9_draw 18 = .ok (.iastore, 1) := by decide +kernel
theorem dX9_draw_19 : decode cX9_draw 19 = .ok (.aload_n 0, 1) := by decide +kernel
theorem dX9_draw_20 : decode cX9_draw 20 = .ok (.getfield 9, 3) := by decide +kernel
theorem dX9_draw_23 : decode cX9_draw 23 = .ok (.iconst 1, 1) := by decide +kernel
theorem dX9_draw_24 : decode cX9_draw 24 = .ok (.iaload, 1) := by decide +kernel
theorem dX9_draw_25 : decode cX9_draw 25 = .ok (.bipush 8, 2) := by decide +kernel
theorem dX9_draw_27 : decode cX9_draw 27 = .ok (.iushr, 1) := by decide +kernel
theorem dX9_draw_28 : decode cX9_draw 28 = .ok (.ireturn, 1) := by decide +kernel
theorem dX9_drawn_0 : decode cX9_drawn 0 = .ok (.aload_n 0, 1) := by decide +kernel
theorem dX9_drawn_1 : decode cX9_drawn 1 = .ok (.getfield 9, 3) := by decide +kernel
theorem dX9_drawn_4 : decode cX9_drawn 4 = .ok (.iconst 2, 1) := by decide +kernel
theorem dX9_drawn_5 : decode cX9_drawn 5 = .ok (.iaload, 1) := by decide +kernel
theorem dX9_drawn_6 : decode cX9_drawn 6 = .ok (.ifCond .le 56, 3) := by decide +kernel
theorem dX9_drawn_9 : decode cX9_drawn 9 = .ok (.aload_n 0, 1) := by decide +kernel
theorem dX9_drawn_10 : decode cX9_drawn 10 = .ok (.getfield 9, 3) := by decide +kernel
theorem dX9_drawn_13 : decode cX9_drawn 13 = .ok (.iconst 3, 1) := by decide +kernel
theorem dX9_drawn_14 : decode cX9_drawn 14 = .ok (.iaload, 1) := by decide +kernel
theorem dX9_drawn_15 : decode cX9_drawn 15 = .ok (.ifCond .le 47, 3) := by decide +kernel
theorem dX9_drawn_18 : decode cX9_drawn 18 = .ok (.aload_n 0, 1) := by decide +kernel
theorem dX9_drawn_19 : decode cX9_drawn 19 = .ok (.invokevirtual 208, 3) := by decide +kernel
theorem dX9_drawn_22 : decode cX9_drawn 22 = .ok (.aload_n 0, 1) := by decide +kernel
theorem dX9_drawn_23 : decode cX9_drawn 23 = .ok (.getfield 9, 3) := by decide +kernel
theorem dX9_drawn_26 : decode cX9_drawn 26 = .ok (.iconst 3, 1) := by decide +kernel
theorem dX9_drawn_27 : decode cX9_drawn 27 = .ok (.iaload, 1) := by decide +kernel
theorem dX9_drawn_28 : decode cX9_drawn 28 = .ok (.irem, 1) := by decide +kernel
theorem dX9_drawn_29 : decode cX9_drawn 29 = .ok (.istore_n 1, 1) := by decide +kernel
theorem dX9_drawn_30 : decode cX9_drawn 30 = .ok (.aload_n 0, 1) := by decide +kernel
theorem dX9_drawn_31 : decode cX9_drawn 31 = .ok (.invokevirtual 208, 3) := by decide +kernel
theorem dX9_drawn_34 : decode cX9_drawn 34 = .ok (.aload_n 0, 1) := by decide +kernel
theorem dX9_drawn_35 : decode cX9_drawn 35 = .ok (.getfield 9, 3) := by decide +kernel
theorem dX9_drawn_38 : decode cX9_drawn 38 = .ok (.iconst 2, 1) := by decide +kernel
theorem dX9_drawn_39 : decode cX9_drawn 39 = .ok (.iaload, 1) := by decide +kernel
theorem dX9_drawn_40 : decode cX9_drawn 40 = .ok (.irem, 1) := by decide +kernel
theorem dX9_drawn_41 : decode cX9_drawn 41 = .ok (.istore_n 2, 1) := by decide +kernel
theorem dX9_drawn_42 : decode cX9_drawn 42 = .ok (.aload_n 0, 1) := by decide +kernel
theorem dX9_drawn_43 : decode cX9_drawn 43 = .ok (.iload_n 1, 1) := by decide +kernel
theorem dX9_drawn_44 : decode cX9_drawn 44 = .ok (.iconst 3, 1) := by decide +kernel
theorem dX9_drawn_45 : decode cX9_drawn 45 = .ok (.aload_n 0, 1) := by decide +kernel
theorem dX9_drawn_46 : decode cX9_drawn 46 = .ok (.invokevirtual 208, 3) := by decide +kernel
theorem dX9_drawn_49 : decode cX9_drawn 49 = .ok (.iconst 4, 1) := by decide +kernel
theorem dX9_drawn_50 : decode cX9_drawn 50 = .ok (.irem, 1) := by decide +kernel
theorem dX9_drawn_51 : decode cX9_drawn 51 = .ok (.ifCond .ne 7, 3) := by decide +kernel
theorem dX9_drawn_54 : decode cX9_drawn 54 = .ok (.iconst (-1), 1) := by decide +kernel
theorem dX9_drawn_55 : decode cX9_drawn 55 = .ok (.goto 4, 3) := by decide +kernel
theorem dX9_drawn_58 : decode cX9_drawn 58 = .ok (.iload_n 2, 1) := by decide +kernel
theorem dX9_drawn_59 : decode cX9_drawn 59 = .ok (.invokevirtual 117, 3) := by decide +kernel
theorem dX9_drawn_62 : decode cX9_drawn 62 = .ok (.aload_n 0, 1) := by decide +kernel
theorem dX9_drawn_63 : decode cX9_drawn 63 = .ok (.invokevirtual 202, 3) := by decide +kernel
theorem dX9_drawn_66 : decode cX9_drawn 66 = .ok (.return_, 1) := by decide +kernel
theorem dX9_loose_0 : decode cX9_loose 0 = .ok (.iload_n 1, 1) := by decide +kernel
theorem dX9_loose_1 : decode cX9_loose 1 = .ok (.iconst 1, 1) := by decide +kernel
theorem dX9_loose_2 : decode cX9_loose 2 = .ok (.bipush 30, 2) := by decide +kernel
theorem dX9_loose_4 : decode cX9_loose 4 = .ok (.invokestatic 60, 3) := by decide +kernel
theorem dX9_loose_7 : decode cX9_loose 7 = .ok (.ifCond .ne 10, 3) := by decide +kernel
theorem dX9_loose_10 : decode cX9_loose 10 = .ok (.aload_n 0, 1) := by decide +kernel
theorem dX9_loose_11 : decode cX9_loose 11 = .ok (.ldc 95, 2) := by decide +kernel
theorem dX9_loose_13 : decode cX9_loose 13 = .ok (.invokevirtual 96, 3) := by decide +kernel
theorem dX9_loose_16 : decode cX9_loose 16 = .ok (.ireturn, 1) := by decide +kernel
theorem dX9_loose_17 : decode cX9_loose 17 = .ok (.aload_n 0, 1) := by decide +kernel
theorem dX9_loose_18 : decode cX9_loose 18 = .ok (.getfield 9, 3) := by decide +kernel
theorem dX9_loose_21 : decode cX9_loose 21 = .ok (.iconst 0, 1) := by decide +kernel
theorem dX9_loose_22 : decode cX9_loose 22 = .ok (.iaload, 1) := by decide +kernel
theorem dX9_loose_23 : decode cX9_loose 23 = .ok (.iload_n 1, 1) := by decide +kernel
theorem dX9_loose_24 : decode cX9_loose 24 = .ok (.iadd, 1) := by decide +kernel
theorem dX9_loose_25 : decode cX9_loose 25 = .ok (.sipush 9999, 3) := by decide +kernel
theorem dX9_loose_28 : decode cX9_loose 28 = .ok (.if_icmp .le 10, 3) := by decide +kernel
theorem dX9_loose_31 : decode cX9_loose 31 = .ok (.aload_n 0, 1) := by decide +kernel
theorem dX9_loose_32 : decode cX9_loose 32 = .ok (.ldc 201, 2) := by decide +kernel
theorem dX9_loose_34 : decode cX9_loose 34 = .ok (.invokevirtual 96, 3) := by decide +kernel
theorem dX9_loose_37 : decode cX9_loose 37 = .ok (.ireturn, 1) := by decide +kernel
theorem dX9_loose_38 : decode cX9_loose 38 = .ok (.iconst 0, 1) := by decide +kernel
theorem dX9_loose_39 : decode cX9_loose 39 = .ok (.istore_n 2, 1) := by decide +kernel
theorem dX9_loose_40 : decode cX9_loose 40 = .ok (.iload_n 2, 1) := by decide +kernel
theorem dX9_loose_41 : decode cX9_loose 41 = .ok (.iload_n 1, 1) := by decide +kernel
theorem dX9_loose_42 : decode cX9_loose 42 = .ok (.if_icmp .ge 13, 3) := by decide +kernel
theorem dX9_loose_45 : decode cX9_loose 45 = .ok (.aload_n 0, 1) := by decide +kernel
theorem dX9_loose_46 : decode cX9_loose 46 = .ok (.invokevirtual 211, 3) := by decide +kernel
theorem dX9_loose_49 : decode cX9_loose 49 = .ok (.iinc 2 1, 3) := by decide +kernel
theorem dX9_loose_52 : decode cX9_loose 52 = .ok (.goto (-12), 3) := by decide +kernel
theorem dX9_loose_55 : decode cX9_loose 55 = .ok (.aload_n 0, 1) := by decide +kernel
theorem dX9_loose_56 : decode cX9_loose 56 = .ok (.invokevirtual 205, 3) := by decide +kernel
theorem dX9_loose_59 : decode cX9_loose 59 = .ok (.ireturn, 1) := by decide +kernel
theorem dX9_hour_0 : decode cX9_hour 0 = .ok (.iload_n 1, 1) := by decide +kernel
theorem dX9_hour_1 : decode cX9_hour 1 = .ok (.iconst 0, 1) := by decide +kernel
theorem dX9_hour_2 : decode cX9_hour 2 = .ok (.sipush 9999, 3) := by decide +kernel
theorem dX9_hour_5 : decode cX9_hour 5 = .ok (.invokestatic 60, 3) := by decide +kernel
theorem dX9_hour_8 : decode cX9_hour 8 = .ok (.ifCond .eq 12, 3) := by decide +kernel
theorem dX9_hour_11 : decode cX9_hour 11 = .ok (.aload_n 0, 1) := by decide +kernel
theorem dX9_hour_12 : decode cX9_hour 12 = .ok (.iconst 0, 1) := by decide +kernel
theorem dX9_hour_13 : decode cX9_hour 13 = .ok (.iload_n 1, 1) := by decide +kernel
theorem dX9_hour_14 : decode cX9_hour 14 = .ok (.invokevirtual 109, 3) := by decide +kernel
theorem dX9_hour_17 : decode cX9_hour 17 = .ok (.goto 9, 3) := by decide +kernel
theorem dX9_hour_20 : decode cX9_hour 20 = .ok (.aload_n 0, 1) := by decide +kernel
theorem dX9_hour_21 : decode cX9_hour 21 = .ok (.ldc 95, 2) := by decide +kernel
theorem dX9_hour_23 : decode cX9_hour 23 = .ok (.invokevirtual 96, 3) := by decide +kernel
theorem dX9_hour_26 : decode cX9_hour 26 = .ok (.ireturn, 1) := by decide +kernel
theorem dX9_seed_0 : decode cX9_seed 0 = .ok (.aload_n 0, 1) := by decide +kernel
theorem dX9_seed_1 : decode cX9_seed 1 = .ok (.iconst 1, 1) := by decide +kernel
theorem dX9_seed_2 : decode cX9_seed 2 = .ok (.iload_n 1, 1) := by decide +kernel
theorem dX9_seed_3 : decode cX9_seed 3 = .ok (.invokevirtual 109, 3) := by decide +kernel
theorem dX9_seed_6 : decode cX9_seed 6 = .ok (.ireturn, 1) := by decide +kernel
theorem dX9_then_0 : decode cX9_then 0 = .ok (.iload_n 1, 1) := by decide +kernel
theorem dX9_then_1 : decode cX9_then 1 = .ok (.iconst 0, 1) := by decide +kernel
theorem dX9_then_2 : decode cX9_then 2 = .ok (.bipush 60, 2) := by decide +kernel
theorem dX9_then_4 : decode cX9_then 4 = .ok (.invokestatic 60, 3) := by decide +kernel
theorem dX9_then_7 : decode cX9_then 7 = .ok (.ifCond .eq 12, 3) := by decide +kernel
theorem dX9_then_10 : decode cX9_then 10 = .ok (.iload_n 2, 1) := by decide +kernel
theorem dX9_then_11 : decode cX9_then 11 = .ok (.iconst 0, 1) := by decide +kernel
theorem dX9_then_12 : decode cX9_then 12 = .ok (.iconst 1, 1) := by decide +kernel
theorem dX9_then_13 : decode cX9_then 13 = .ok (.invokestatic 60, 3) := by decide +kernel
theorem dX9_then_16 : decode cX9_then 16 = .ok (.ifCond .ne 10, 3) := by decide +kernel
theorem dX9_then_19 : decode cX9_then 19 = .ok (.aload_n 0, 1) := by decide +kernel
theorem dX9_then_20 : decode cX9_then 20 = .ok (.ldc 95, 2) := by decide +kernel
theorem dX9_then_22 : decode cX9_then 22 = .ok (.invokevirtual 96, 3) := by decide +kernel
theorem dX9_then_25 : decode cX9_then 25 = .ok (.ireturn, 1) := by decide +kernel
theorem dX9_then_26 : decode cX9_then 26 = .ok (.aload_n 0, 1) := by decide +kernel
theorem dX9_then_27 : decode cX9_then 27 = .ok (.invokevirtual 214, 3) := by decide +kernel
theorem dX9_then_30 : decode cX9_then 30 = .ok (.iconst 0, 1) := by decide +kernel
theorem dX9_then_31 : decode cX9_then 31 = .ok (.istore_n 3, 1) := by decide +kernel
theorem dX9_then_32 : decode cX9_then 32 = .ok (.iload_n 3, 1) := by decide +kernel
theorem dX9_then_33 : decode cX9_then 33 = .ok (.iload_n 1, 1) := by decide +kernel
theorem dX9_then_34 : decode cX9_then 34 = .ok (.if_icmp .ge 13, 3) := by decide +kernel
theorem dX9_then_37 : decode cX9_then 37 = .ok (.aload_n 0, 1) := by decide +kernel
theorem dX9_then_38 : decode cX9_then 38 = .ok (.invokevirtual 202, 3) := by decide +kernel
theorem dX9_then_41 : decode cX9_then 41 = .ok (.iinc 3 1, 3) := by decide +kernel
theorem dX9_then_44 : decode cX9_then 44 = .ok (.goto (-12), 3) := by decide +kernel
theorem dX9_then_47 : decode cX9_then 47 = .ok (.iload_n 2, 1) := by decide +kernel
theorem dX9_then_48 : decode cX9_then 48 = .ok (.ifCond .ne 10, 3) := by decide +kernel
theorem dX9_then_51 : decode cX9_then 51 = .ok (.aload_n 0, 1) := by decide +kernel
theorem dX9_then_52 : decode cX9_then 52 = .ok (.invokevirtual 205, 3) := by decide +kernel
theorem dX9_then_55 : decode cX9_then 55 = .ok (.goto 9, 3) := by decide +kernel
theorem dX9_then_58 : decode cX9_then 58 = .ok (.aload_n 0, 1) := by decide +kernel
theorem dX9_then_59 : decode cX9_then 59 = .ok (.getfield 9, 3) := by decide +kernel
theorem dX9_then_62 : decode cX9_then 62 = .ok (.iconst 5, 1) := by decide +kernel
theorem dX9_then_63 : decode cX9_then 63 = .ok (.iaload, 1) := by decide +kernel
theorem dX9_then_64 : decode cX9_then 64 = .ok (.istore_n 3, 1) := by decide +kernel
theorem dX9_then_65 : decode cX9_then 65 = .ok (.aload_n 0, 1) := by decide +kernel
theorem dX9_then_66 : decode cX9_then 66 = .ok (.invokevirtual 217, 3) := by decide +kernel
theorem dX9_then_69 : decode cX9_then 69 = .ok (.iload_n 3, 1) := by decide +kernel
theorem dX9_then_70 : decode cX9_then 70 = .ok (.ireturn, 1) := by decide +kernel
theorem dX9_first_0 : decode cX9_first 0 = .ok (.aload_n 0, 1) := by decide +kernel
theorem dX9_first_1 : decode cX9_first 1 = .ok (.iload_n 1, 1) := by decide +kernel
theorem dX9_first_2 : decode cX9_first 2 = .ok (.invokevirtual 121, 3) := by decide +kernel
theorem dX9_first_5 : decode cX9_first 5 = .ok (.ifCond .ne 10, 3) := by decide +kernel
theorem dX9_first_8 : decode cX9_first 8 = .ok (.aload_n 0, 1) := by decide +kernel
theorem dX9_first_9 : decode cX9_first 9 = .ok (.ldc 95, 2) := by decide +kernel
theorem dX9_first_11 : decode cX9_first 11 = .ok (.invokevirtual 96, 3) := by decide +kernel
theorem dX9_first_14 : decode cX9_first 14 = .ok (.ireturn, 1) := by decide +kernel
theorem dX9_first_15 : decode cX9_first 15 = .ok (.aload_n 0, 1) := by decide +kernel
theorem dX9_first_16 : decode cX9_first 16 = .ok (.invokevirtual 214, 3) := by decide +kernel
theorem dX9_first_19 : decode cX9_first 19 = .ok (.iconst 0, 1) := by decide +kernel
theorem dX9_first_20 : decode cX9_first 20 = .ok (.istore_n 2, 1) := by decide +kernel
theorem dX9_first_21 : decode cX9_first 21 = .ok (.iload_n 2, 1) := by decide +kernel
theorem dX9_first_22 : decode cX9_first 22 = .ok (.bipush 60, 2) := by decide +kernel
theorem dX9_first_24 : decode cX9_first 24 = .ok (.if_icmp .gt 21, 3) := by decide +kernel
theorem dX9_first_27 : decode cX9_first 27 = .ok (.aload_n 0, 1) := by decide +kernel
theorem dX9_first_28 : decode cX9_first 28 = .ok (.iload_n 1, 1) := by decide +kernel
theorem dX9_first_29 : decode cX9_first 29 = .ok (.invokevirtual 72, 3) := by decide +kernel
theorem dX9_first_32 : decode cX9_first 32 = .ok (.ifCond .ne 13, 3) := by decide +kernel
theorem dX9_first_35 : decode cX9_first 35 = .ok (.aload_n 0, 1) := by decide +kernel
theorem dX9_first_36 : decode cX9_first 36 = .ok (.invokevirtual 202, 3) := by decide +kernel
theorem dX9_first_39 : decode cX9_first 39 = .ok (.iinc 2 1, 3) := by decide +kernel
theorem dX9_first_42 : decode cX9_first 42 = .ok (.goto (-21), 3) := by decide +kernel
theorem dX9_first_45 : decode cX9_first 45 = .ok (.aload_n 0, 1) := by decide +kernel
theorem dX9_first_46 : decode cX9_first 46 = .ok (.invokevirtual 217, 3) := by decide +kernel
theorem dX9_first_49 : decode cX9_first 49 = .ok (.iload_n 2, 1) := by decide +kernel
theorem dX9_first_50 : decode cX9_first 50 = .ok (.bipush 60, 2) := by decide +kernel
theorem dX9_first_52 : decode cX9_first 52 = .ok (.if_icmp .le 12, 3) := by decide +kernel
theorem dX9_first_55 : decode cX9_first 55 = .ok (.aload_n 0, 1) := by decide +kernel
theorem dX9_first_56 : decode cX9_first 56 = .ok (.ldc 220, 2) := by decide +kernel
theorem dX9_first_58 : decode cX9_first 58 = .ok (.invokevirtual 96, 3) := by decide +kernel
theorem dX9_first_61 : decode cX9_first 61 = .ok (.goto 4, 3) := by decide +kernel
theorem dX9_first_64 : decode cX9_first 64 = .ok (.iload_n 2, 1) := by decide +kernel
theorem dX9_first_65 : decode cX9_first 65 = .ok (.ireturn, 1) := by decide +kernel
theorem dX9_findWeights_0 : decode cX9_findWeights 0 = .ok (.aload_n 0, 1) := by decide +kernel
theorem dX9_findWeights_1 : decode cX9_findWeights 1 = .ok (.getfield 49, 3) := by decide +kernel
theorem dX9_findWeights_4 : decode cX9_findWeights 4 = .ok (.iconst 0, 1) := by decide +kernel
theorem dX9_findWeights_5 : decode cX9_findWeights 5 = .ok (.iconst 0, 1) := by decide +kernel
theorem dX9_findWeights_6 : decode cX9_findWeights 6 = .ok (.iastore, 1) := by decide +kernel
theorem dX9_findWeights_7 : decode cX9_findWeights 7 = .ok (.iconst 0, 1) := by decide +kernel
theorem dX9_findWeights_8 : decode cX9_findWeights 8 = .ok (.istore_n 2, 1) := by decide +kernel
theorem dX9_findWeights_9 : decode cX9_findWeights 9 = .ok (.iload_n 2, 1) := by decide +kernel
theorem dX9_findWeights_10 : decode cX9_findWeights 10 = .ok (.aload_n 0, 1) := by decide +kernel
theorem dX9_findWeights_11 : decode cX9_findWeights 11 = .ok (.getfield 9, 3) := by decide +kernel
theorem dX9_findWeights_14 : decode cX9_findWeights 14 = .ok (.iconst 3, 1) := by decide +kernel
theorem dX9_findWeights_15 : decode cX9_findWeights 15 = .ok (.iaload, 1) := by decide +kernel
theorem dX9_findWeights_16 : decode cX9_findWeights 16 = .ok (.if_icmp .ge 53, 3) := by decide +kernel
theorem dX9_findWeights_19 : decode cX9_findWeights 19 = .ok (.aload_n 0, 1) := by decide +kernel
theorem dX9_findWeights_20 : decode cX9_findWeights 20 = .ok (.iload_n 1, 1) := by decide +kernel
theorem dX9_findWeights_21 : decode cX9_findWeights 21 = .ok (.iload_n 2, 1) := by decide +kernel
theorem dX9_findWeights_22 : decode cX9_findWeights 22 = .ok (.invokevirtual 89, 3) := by decide +kernel
theorem dX9_findWeights_25 : decode cX9_findWeights 25 = .ok (.istore_n 3, 1) := by decide +kernel
theorem dX9_findWeights_26 : decode cX9_findWeights 26 = .ok (.iconst 0, 1) := by decide +kernel
theorem dX9_findWeights_27 : decode cX9_findWeights 27 = .ok (.istore 4, 2) := by decide +kernel
theorem dX9_findWeights_29 : decode cX9_findWeights 29 = .ok (.iload 4, 2) := by decide +kernel
theorem dX9_findWeights_31 : decode cX9_findWeights 31 = .ok (.iconst 1, 1) := by decide +kernel
theorem dX9_findWeights_32 : decode cX9_findWeights 32 = .ok (.iload_n 2, 1) := by decide +kernel
theorem dX9_findWeights_33 : decode cX9_findWeights 33 = .ok (.ishl, 1) := by decide +kernel
theorem dX9_findWeights_34 : decode cX9_findWeights 34 = .ok (.if_icmp .ge 29, 3) := by decide +kernel
theorem dX9_findWeights_37 : decode cX9_findWeights 37 = .ok (.aload_n 0, 1) := by decide +kernel
theorem dX9_findWeights_38 : decode cX9_findWeights 38 = .ok (.getfield 49, 3) := by decide +kernel
theorem dX9_findWeights_41 : decode cX9_findWeights 41 = .ok (.iload 4, 2) := by decide +kernel
theorem dX9_findWeights_43 : decode cX9_findWeights 43 = .ok (.iconst 1, 1) := by decide +kernel
theorem dX9_findWeights_44 : decode cX9_findWeights 44 = .ok (.iload_n 2, 1) := by decide +kernel
theorem dX9_findWeights_45 : decode cX9_findWeights 45 = .ok (.ishl, 1) := by decide +kernel
theorem dX9_findWeights_46 : decode cX9_findWeights 46 = .ok (.ior, 1) := by decide +kernel
theorem dX9_findWeights_47 : decode cX9_findWeights 47 = .ok (.aload_n 0, 1) := by decide +kernel
theorem dX9_findWeights_48 : decode cX9_findWeights 48 = .ok (.getfield 49, 3) := by decide +kernel
theorem dX9_findWeights_51 : decode cX9_findWeights 51 = .ok (.iload 4, 2) := by decide +kernel
theorem dX9_findWeights_53 : decode cX9_findWeights 53 = .ok (.iaload, 1) := by decide +kernel
theorem dX9_findWeights_54 : decode cX9_findWeights 54 = .ok (.iload_n 3, 1) := by decide +kernel
theorem dX9_findWeights_55 : decode cX9_findWeights 55 = .ok (.iadd, 1) := by decide +kernel
theorem dX9_findWeights_56 : decode cX9_findWeights 56 = .ok (.iastore, 1) := by decide +kernel
theorem dX9_findWeights_57 : decode cX9_findWeights 57 = .ok (.iinc 4 1, 3) := by decide +kernel
theorem dX9_findWeights_60 : decode cX9_findWeights 60 = .ok (.goto (-31), 3) := by decide +kernel
theorem dX9_findWeights_63 : decode cX9_findWeights 63 = .ok (.iinc 2 1, 3) := by decide +kernel
theorem dX9_findWeights_66 : decode cX9_findWeights 66 = .ok (.goto (-57), 3) := by decide +kernel
theorem dX9_findWeights_69 : decode cX9_findWeights 69 = .ok (.return_, 1) := by decide +kernel
theorem dX9_tries_0 : decode cX9_tries 0 = .ok (.aload_n 0, 1) := by decide +kernel
theorem dX9_tries_1 : decode cX9_tries 1 = .ok (.iload_n 1, 1) := by decide +kernel
theorem dX9_tries_2 : decode cX9_tries 2 = .ok (.invokevirtual 106, 3) := by decide +kernel
theorem dX9_tries_5 : decode cX9_tries 5 = .ok (.istore_n 2, 1) := by decide +kernel
theorem dX9_tries_6 : decode cX9_tries 6 = .ok (.aload_n 0, 1) := by decide +kernel
theorem dX9_tries_7 : decode cX9_tries 7 = .ok (.iload_n 1, 1) := by decide +kernel
theorem dX9_tries_8 : decode cX9_tries 8 = .ok (.invokevirtual 221, 3) := by decide +kernel
theorem dX9_tries_11 : decode cX9_tries 11 = .ok (.iconst 0, 1) := by decide +kernel
theorem dX9_tries_12 : decode cX9_tries 12 = .ok (.istore_n 3, 1) := by decide +kernel
theorem dX9_tries_13 : decode cX9_tries 13 = .ok (.iload_n 3, 1) := by decide +kernel
theorem dX9_tries_14 : decode cX9_tries 14 = .ok (.iconst 1, 1) := by decide +kernel
theorem dX9_tries_15 : decode cX9_tries 15 = .ok (.aload_n 0, 1) := by decide +kernel
theorem dX9_tries_16 : decode cX9_tries 16 = .ok (.getfield 9, 3) := by decide +kernel
theorem dX9_tries_19 : decode cX9_tries 19 = .ok (.iconst 3, 1) := by decide +kernel
theorem dX9_tries_20 : decode cX9_tries 20 = .ok (.iaload, 1) := by decide +kernel
theorem dX9_tries_21 : decode cX9_tries 21 = .ok (.ishl, 1) := by decide +kernel
theorem dX9_tries_22 : decode cX9_tries 22 = .ok (.if_icmp .ge 113, 3) := by decide +kernel
theorem dX9_tries_25 : decode cX9_tries 25 = .ok (.aload_n 0, 1) := by decide +kernel
theorem dX9_tries_26 : decode cX9_tries 26 = .ok (.getfield 46, 3) := by decide +kernel
theorem dX9_tries_29 : decode cX9_tries 29 = .ok (.iload_n 3, 1) := by decide +kernel
theorem dX9_tries_30 : decode cX9_tries 30 = .ok (.aload_n 0, 1) := by decide +kernel
theorem dX9_tries_31 : decode cX9_tries 31 = .ok (.getfield 43, 3) := by decide +kernel
theorem dX9_tries_34 : decode cX9_tries 34 = .ok (.iload_n 3, 1) := by decide +kernel
theorem dX9_tries_35 : decode cX9_tries 35 = .ok (.iaload, 1) := by decide +kernel
theorem dX9_tries_36 : decode cX9_tries 36 = .ok (.iastore, 1) := by decide +kernel
theorem dX9_tries_37 : decode cX9_tries 37 = .ok (.iload_n 3, 1) := by decide +kernel
theorem dX9_tries_38 : decode cX9_tries 38 = .ok (.istore 4, 2) := by decide +kernel
theorem dX9_tries_40 : decode cX9_tries 40 = .ok (.iload 4, 2) := by decide +kernel
theorem dX9_tries_42 : decode cX9_tries 42 = .ok (.ifCond .le 87, 3) := by decide +kernel
theorem dX9_tries_45 : decode cX9_tries 45 = .ok (.aload_n 0, 1) := by decide +kernel
theorem dX9_tries_46 : decode cX9_tries 46 = .ok (.getfield 49, 3) := by decide +kernel
theorem dX9_tries_49 : decode cX9_tries 49 = .ok (.iload 4, 2) := by decide +kernel
theorem dX9_tries_51 : decode cX9_tries 51 = .ok (.iaload, 1) := by decide +kernel
theorem dX9_tries_52 : decode cX9_tries 52 = .ok (.iload_n 2, 1) := by decide +kernel
theorem dX9_tries_53 : decode cX9_tries 53 = .ok (.if_icmp .gt 29, 3) := by decide +kernel
theorem dX9_tries_56 : decode cX9_tries 56 = .ok (.aload_n 0, 1) := by decide +kernel
theorem dX9_tries_57 : decode cX9_tries 57 = .ok (.getfield 43, 3) := by decide +kernel
theorem dX9_tries_60 : decode cX9_tries 60 = .ok (.iload_n 3, 1) := by decide +kernel
theorem dX9_tries_61 : decode cX9_tries 61 = .ok (.iload 4, 2) := by decide +kernel
theorem dX9_tries_63 : decode cX9_tries 63 = .ok (.iconst (-1), 1) := by decide +kernel
theorem dX9_tries_64 : decode cX9_tries 64 = .ok (.ixor, 1) := by decide +kernel
theorem dX9_tries_65 : decode cX9_tries 65 = .ok (.iand, 1) := by decide +kernel
theorem dX9_tries_66 : decode cX9_tries 66 = .ok (.iaload, 1) := by decide +kernel
theorem dX9_tries_67 : decode cX9_tries 67 = .ok (.iconst 1, 1) := by decide +kernel
theorem dX9_tries_68 : decode cX9_tries 68 = .ok (.iadd, 1) := by decide +kernel
theorem dX9_tries_69 : decode cX9_tries 69 = .ok (.aload_n 0, 1) := by decide +kernel
theorem dX9_tries_70 : decode cX9_tries 70 = .ok (.getfield 46, 3) := by decide +kernel
theorem dX9_tries_73 : decode cX9_tries 73 = .ok (.iload_n 3, 1) := by decide +kernel
theorem dX9_tries_74 : decode cX9_tries 74 = .ok (.iaload, 1) := by decide +kernel
theorem dX9_tries_75 : decode cX9_tries 75 = .ok (.if_icmp .ge 7, 3) := by decide +kernel
theorem dX9_tries_78 : decode cX9_tries 78 = .ok (.iconst 1, 1) := by decide +kernel
theorem dX9_tries_79 : decode cX9_tries 79 = .ok (.goto 4, 3) := by decide +kernel
theorem dX9_tries_82 : decode cX9_tries 82 = .ok (.iconst 0, 1) := by decide +kernel
theorem dX9_tries_83 : decode cX9_tries 83 = .ok (.istore 5, 2) := by decide +kernel
theorem dX9_tries_85 : decode cX9_tries 85 = .ok (.aload_n 0, 1) := by decide +kernel
theorem dX9_tries_86 : decode cX9_tries 86 = .ok (.getfield 46, 3) := by decide +kernel
theorem dX9_tries_89 : decode cX9_tries 89 = .ok (.iload_n 3, 1) := by decide +kernel
theorem dX9_tries_90 : decode cX9_tries 90 = .ok (.iload 5, 2) := by decide +kernel
theorem dX9_tries_92 : decode cX9_tries 92 = .ok (.ifCond .eq 19, 3) := by decide +kernel
theorem dX9_tries_95 : decode cX9_tries 95 = .ok (.aload_n 0, 1) := by decide +kernel
theorem dX9_tries_96 : decode cX9_tries 96 = .ok (.getfield 43, 3) := by decide +kernel
theorem dX9_tries_99 : decode cX9_tries 99 = .ok (.iload_n 3, 1) := by decide +kernel
theorem dX9_tries_100 : decode cX9_tries 100 = .ok (.iload 4, 2) := by decide +kernel
theorem dX9_tries_102 : decode cX9_tries 102 = .ok (.iconst (-1), 1) := by decide +kernel
theorem dX9_tries_103 : decode cX9_tries 103 = .ok (.ixor, 1) := by decide +kernel
theorem dX9_tries_104 : decode cX9_tries 104 = .ok (.iand, 1) := by decide +kernel
theorem dX9_tries_105 : decode cX9_tries 105 = .ok (.iaload, 1) := by decide +kernel
theorem dX9_tries_106 : decode cX9_tries 106 = .ok (.iconst 1, 1) := by decide +kernel
theorem dX9_tries_107 : decode cX9_tries 107 = .ok (.iadd, 1) := by decide +kernel
theorem dX9_tries_108 : decode cX9_tries 108 = .ok (.goto 9, 3) := by decide +kernel
theorem dX9_tries_111 : decode cX9_tries 111 = .ok (.aload_n 0, 1) := by decide +kernel
theorem dX9_tries_112 : decode cX9_tries 112 = .ok (.getfield 46, 3) := by decide +kernel
theorem dX9_tries_115 : decode cX9_tries 115 = .ok (.iload_n 3, 1) := by decide +kernel
theorem dX9_tries_116 : decode cX9_tries 116 = .ok (.iaload, 1) := by decide +kernel
theorem dX9_tries_117 : decode cX9_tries 117 = .ok (.iastore, 1) := by decide +kernel
theorem dX9_tries_118 : decode cX9_tries 118 = .ok (.iload 4, 2) := by decide +kernel
theorem dX9_tries_120 : decode cX9_tries 120 = .ok (.iconst 1, 1) := by decide +kernel
theorem dX9_tries_121 : decode cX9_tries 121 = .ok (.isub, 1) := by decide +kernel
theorem dX9_tries_122 : decode cX9_tries 122 = .ok (.iload_n 3, 1) := by decide +kernel
theorem dX9_tries_123 : decode cX9_tries 123 = .ok (.iand, 1) := by decide +kernel
theorem dX9_tries_124 : decode cX9_tries 124 = .ok (.istore 4, 2) := by decide +kernel
theorem dX9_tries_126 : decode cX9_tries 126 = .ok (.goto (-86), 3) := by decide +kernel
theorem dX9_tries_129 : decode cX9_tries 129 = .ok (.iinc 3 1, 3) := by decide +kernel
theorem dX9_tries_132 : decode cX9_tries 132 = .ok (.goto (-119), 3) := by decide +kernel
theorem dX9_tries_135 : decode cX9_tries 135 = .ok (.iconst 0, 1) := by decide +kernel
theorem dX9_tries_136 : decode cX9_tries 136 = .ok (.istore_n 3, 1) := by decide +kernel
theorem dX9_tries_137 : decode cX9_tries 137 = .ok (.iload_n 3, 1) := by decide +kernel
theorem dX9_tries_138 : decode cX9_tries 138 = .ok (.iconst 1, 1) := by decide +kernel
theorem dX9_tries_139 : decode cX9_tries 139 = .ok (.aload_n 0, 1) := by decide +kernel
theorem dX9_tries_140 : decode cX9_tries 140 = .ok (.getfield 9, 3) := by decide +kernel
theorem dX9_tries_143 : decode cX9_tries 143 = .ok (.iconst 3, 1) := by decide +kernel
theorem dX9_tries_144 : decode cX9_tries 144 = .ok (.iaload, 1) := by decide +kernel
theorem dX9_tries_145 : decode cX9_tries 145 = .ok (.ishl, 1) := by decide +kernel
theorem dX9_tries_146 : decode cX9_tries 146 = .ok (.if_icmp .ge 21, 3) := by decide +kernel
theorem dX9_tries_149 : decode cX9_tries 149 = .ok (.aload_n 0, 1) := by decide +kernel
theorem dX9_tries_150 : decode cX9_tries 150 = .ok (.getfield 43, 3) := by decide +kernel
theorem dX9_tries_153 : decode cX9_tries 153 = .ok (.iload_n 3, 1) := by decide +kernel
theorem dX9_tries_154 : decode cX9_tries 154 = .ok (.aload_n 0, 1) := by decide +kernel
theorem dX9_tries_155 : decode cX9_tries 155 = .ok (.getfield 46, 3) := by decide +kernel
theorem dX9_tries_158 : decode cX9_tries 158 = .ok (.iload_n 3, 1) := by decide +kernel
theorem dX9_tries_159 : decode cX9_tries 159 = .ok (.iaload, 1) := by decide +kernel
theorem dX9_tries_160 : decode cX9_tries 160 = .ok (.iastore, 1) := by decide +kernel
theorem dX9_tries_161 : decode cX9_tries 161 = .ok (.iinc 3 1, 3) := by decide +kernel
theorem dX9_tries_164 : decode cX9_tries 164 = .ok (.goto (-27), 3) := by decide +kernel
theorem dX9_tries_167 : decode cX9_tries 167 = .ok (.return_, 1) := by decide +kernel
theorem dX9_fewest_0 : decode cX9_fewest 0 = .ok (.iconst 0, 1) := by decide +kernel
theorem dX9_fewest_1 : decode cX9_fewest 1 = .ok (.istore_n 1, 1) := by decide +kernel
theorem dX9_fewest_2 : decode cX9_fewest 2 = .ok (.iload_n 1, 1) := by decide +kernel
theorem dX9_fewest_3 : decode cX9_fewest 3 = .ok (.sipush 512, 3) := by decide +kernel
theorem dX9_fewest_6 : decode cX9_fewest 6 = .ok (.if_icmp .ge 25, 3) := by decide +kernel
theorem dX9_fewest_9 : decode cX9_fewest 9 = .ok (.aload_n 0, 1) := by decide +kernel
theorem dX9_fewest_10 : decode cX9_fewest 10 = .ok (.getfield 43, 3) := by decide +kernel
theorem dX9_fewest_13 : decode cX9_fewest 13 = .ok (.iload_n 1, 1) := by decide +kernel
theorem dX9_fewest_14 : decode cX9_fewest 14 = .ok (.iload_n 1, 1) := by decide +kernel
theorem dX9_fewest_15 : decode cX9_fewest 15 = .ok (.ifCond .ne 7, 3) := by decide +kernel
theorem dX9_fewest_18 : decode cX9_fewest 18 = .ok (.iconst 0, 1) := by decide +kernel
theorem dX9_fewest_19 : decode cX9_fewest 19 = .ok (.goto 5, 3) := by decide +kernel
theorem dX9_fewest_22 : decode cX9_fewest 22 = .ok (.bipush 7, 2) := by decide +kernel
theorem dX9_fewest_24 : decode cX9_fewest 24 = .ok (.iastore, 1) := by decide +kernel
theorem dX9_fewest_25 : decode cX9_fewest 25 = .ok (.iinc 1 1, 3) := by decide +kernel
theorem dX9_fewest_28 : decode cX9_fewest 28 = .ok (.goto (-26), 3) := by decide +kernel
theorem dX9_fewest_31 : decode cX9_fewest 31 = .ok (.iconst 0, 1) := by decide +kernel
theorem dX9_fewest_32 : decode cX9_fewest 32 = .ok (.istore_n 1, 1) := by decide +kernel
theorem dX9_fewest_33 : decode cX9_fewest 33 = .ok (.iload_n 1, 1) := by decide +kernel
theorem dX9_fewest_34 : decode cX9_fewest 34 = .ok (.aload_n 0, 1) := by decide +kernel
theorem dX9_fewest_35 : decode cX9_fewest 35 = .ok (.getfield 9, 3) := by decide +kernel
theorem dX9_fewest_38 : decode cX9_fewest 38 = .ok (.iconst 2, 1) := by decide +kernel
theorem dX9_fewest_39 : decode cX9_fewest 39 = .ok (.iaload, 1) := by decide +kernel
theorem dX9_fewest_40 : decode cX9_fewest 40 = .ok (.if_icmp .ge 14, 3) := by decide +kernel
theorem dX9_fewest_43 : decode cX9_fewest 43 = .ok (.aload_n 0, 1) := by decide +kernel
theorem dX9_fewest_44 : decode cX9_fewest 44 = .ok (.iload_n 1, 1) := by decide +kernel
theorem dX9_fewest_45 : decode cX9_fewest 45 = .ok (.invokevirtual 224, 3) := by decide +kernel
theorem dX9_fewest_48 : decode cX9_fewest 48 = .ok (.iinc 1 1, 3) := by decide +kernel
theorem dX9_fewest_51 : decode cX9_fewest 51 = .ok (.goto (-18), 3) := by decide +kernel
theorem dX9_fewest_54 : decode cX9_fewest 54 = .ok (.aload_n 0, 1) := by decide +kernel
theorem dX9_fewest_55 : decode cX9_fewest 55 = .ok (.getfield 43, 3) := by decide +kernel
theorem dX9_fewest_58 : decode cX9_fewest 58 = .ok (.iconst 1, 1) := by decide +kernel
theorem dX9_fewest_59 : decode cX9_fewest 59 = .ok (.aload_n 0, 1) := by decide +kernel
theorem dX9_fewest_60 : decode cX9_fewest 60 = .ok (.getfield 9, 3) := by decide +kernel
theorem dX9_fewest_63 : decode cX9_fewest 63 = .ok (.iconst 3, 1) := by decide +kernel
theorem dX9_fewest_64 : decode cX9_fewest 64 = .ok (.iaload, 1) := by decide +kernel
theorem dX9_fewest_65 : decode cX9_fewest 65 = .ok (.ishl, 1) := by decide +kernel
theorem dX9_fewest_66 : decode cX9_fewest 66 = .ok (.iconst 1, 1) := by decide +kernel
theorem dX9_fewest_67 : decode cX9_fewest 67 = .ok (.isub, 1) := by decide +kernel
theorem dX9_fewest_68 : decode cX9_fewest 68 = .ok (.iaload, 1) := by decide +kernel
theorem dX9_fewest_69 : decode cX9_fewest 69 = .ok (.istore_n 1, 1) := by decide +kernel
theorem dX9_fewest_70 : decode cX9_fewest 70 = .ok (.iload_n 1, 1) := by decide +kernel
theorem dX9_fewest_71 : decode cX9_fewest 71 = .ok (.bipush 6, 2) := by decide +kernel
theorem dX9_fewest_73 : decode cX9_fewest 73 = .ok (.if_icmp .le 12, 3) := by decide +kernel
theorem dX9_fewest_76 : decode cX9_fewest 76 = .ok (.aload_n 0, 1) := by decide +kernel
theorem dX9_fewest_77 : decode cX9_fewest 77 = .ok (.ldc 220, 2) := by decide +kernel
theorem dX9_fewest_79 : decode cX9_fewest 79 = .ok (.invokevirtual 96, 3) := by decide +kernel
theorem dX9_fewest_82 : decode cX9_fewest 82 = .ok (.goto 4, 3) := by decide +kernel
theorem dX9_fewest_85 : decode cX9_fewest 85 = .ok (.iload_n 1, 1) := by decide +kernel
theorem dX9_fewest_86 : decode cX9_fewest 86 = .ok (.ireturn, 1) := by decide +kernel
theorem dX9_onward_0 : decode cX9_onward 0 = .ok (.iload_n 1, 1) := by decide +kernel
theorem dX9_onward_1 : decode cX9_onward 1 = .ok (.istore_n 3, 1) := by decide +kernel
theorem dX9_onward_2 : decode cX9_onward 2 = .ok (.iconst 0, 1) := by decide +kernel
theorem dX9_onward_3 : decode cX9_onward 3 = .ok (.istore 4, 2) := by decide +kernel
theorem dX9_onward_5 : decode cX9_onward 5 = .ok (.iload 4, 2) := by decide +kernel
theorem dX9_onward_7 : decode cX9_onward 7 = .ok (.aload_n 0, 1) := by decide +kernel
theorem dX9_onward_8 : decode cX9_onward 8 = .ok (.getfield 9, 3) := by decide +kernel
theorem dX9_onward_11 : decode cX9_onward 11 = .ok (.iconst 3, 1) := by decide +kernel
theorem dX9_onward_12 : decode cX9_onward 12 = .ok (.iaload, 1) := by decide +kernel
theorem dX9_onward_13 : decode cX9_onward 13 = .ok (.if_icmp .ge 56, 3) := by decide +kernel
theorem dX9_onward_16 : decode cX9_onward 16 = .ok (.iconst 1, 1) := by decide +kernel
theorem dX9_onward_17 : decode cX9_onward 17 = .ok (.aload_n 0, 1) := by decide +kernel
theorem dX9_onward_18 : decode cX9_onward 18 = .ok (.iload 4, 2) := by decide +kernel
theorem dX9_onward_20 : decode cX9_onward 20 = .ok (.iconst 0, 1) := by decide +kernel
theorem dX9_onward_21 : decode cX9_onward 21 = .ok (.invokevirtual 68, 3) := by decide +kernel
theorem dX9_onward_24 : decode cX9_onward 24 = .ok (.ishl, 1) := by decide +kernel
theorem dX9_onward_25 : decode cX9_onward 25 = .ok (.iconst 1, 1) := by decide +kernel
theorem dX9_onward_26 : decode cX9_onward 26 = .ok (.aload_n 0, 1) := by decide +kernel
theorem dX9_onward_27 : decode cX9_onward 27 = .ok (.iload 4, 2) := by decide +kernel
theorem dX9_onward_29 : decode cX9_onward 29 = .ok (.iconst 1, 1) := by decide +kernel
theorem dX9_onward_30 : decode cX9_onward 30 = .ok (.invokevirtual 68, 3) := by decide +kernel
theorem dX9_onward_33 : decode cX9_onward 33 = .ok (.ishl, 1) := by decide +kernel
theorem dX9_onward_34 : decode cX9_onward 34 = .ok (.ior, 1) := by decide +kernel
theorem dX9_onward_35 : decode cX9_onward 35 = .ok (.istore 5, 2) := by decide +kernel
theorem dX9_onward_37 : decode cX9_onward 37 = .ok (.iload_n 3, 1) := by decide +kernel
theorem dX9_onward_38 : decode cX9_onward 38 = .ok (.iload_n 2, 1) := by decide +kernel
theorem dX9_onward_39 : decode cX9_onward 39 = .ok (.iload 4, 2) := by decide +kernel
theorem dX9_onward_41 : decode cX9_onward 41 = .ok (.ishr, 1) := by decide +kernel
theorem dX9_onward_42 : decode cX9_onward 42 = .ok (.iconst 1, 1) := by decide +kernel
theorem dX9_onward_43 : decode cX9_onward 43 = .ok (.iand, 1) := by decide +kernel
theorem dX9_onward_44 : decode cX9_onward 44 = .ok (.iconst 1, 1) := by decide +kernel
theorem dX9_onward_45 : decode cX9_onward 45 = .ok (.if_icmp .ne 15, 3) := by decide +kernel
theorem dX9_onward_48 : decode cX9_onward 48 = .ok (.iload_n 1, 1) := by decide +kernel
theorem dX9_onward_49 : decode cX9_onward 49 = .ok (.iload 5, 2) := by decide +kernel
theorem dX9_onward_51 : decode cX9_onward 51 = .ok (.iand, 1) := by decide +kernel
theorem dX9_onward_52 : decode cX9_onward 52 = .ok (.ifCond .eq 8, 3) := by decide +kernel
theorem dX9_onward_55 : decode cX9_onward 55 = .ok (.iload 5, 2) := by decide +kernel
theorem dX9_onward_57 : decode cX9_onward 57 = .ok (.goto 4, 3) := by decide +kernel
theorem dX9_onward_60 : decode cX9_onward 60 = .ok (.iconst 0, 1) := by decide +kernel
theorem dX9_onward_61 : decode cX9_onward 61 = .ok (.ior, 1) := by decide +kernel
theorem dX9_onward_62 : decode cX9_onward 62 = .ok (.istore_n 3, 1) := by decide +kernel
theorem dX9_onward_63 : decode cX9_onward 63 = .ok (.iinc 4 1, 3) := by decide +kernel
theorem dX9_onward_66 : decode cX9_onward 66 = .ok (.goto (-61), 3) := by decide +kernel
theorem dX9_onward_69 : decode cX9_onward 69 = .ok (.iload_n 3, 1) := by decide +kernel
theorem dX9_onward_70 : decode cX9_onward 70 = .ok (.ireturn, 1) := by decide +kernel
theorem dX9_roamsBy_0 : decode cX9_roamsBy 0 = .ok (.iconst 1, 1) := by decide +kernel
theorem dX9_roamsBy_1 : decode cX9_roamsBy 1 = .ok (.iload_n 1, 1) := by decide +kernel
theorem dX9_roamsBy_2 : decode cX9_roamsBy 2 = .ok (.ishl, 1) := by decide +kernel
theorem dX9_roamsBy_3 : decode cX9_roamsBy 3 = .ok (.istore_n 3, 1) := by decide +kernel
theorem dX9_roamsBy_4 : decode cX9_roamsBy 4 = .ok (.iconst 0, 1) := by decide +kernel
theorem dX9_roamsBy_5 : decode cX9_roamsBy 5 = .ok (.istore 4, 2) := by decide +kernel
theorem dX9_roamsBy_7 : decode cX9_roamsBy 7 = .ok (.iload_n 3, 1) := by decide +kernel
theorem dX9_roamsBy_8 : decode cX9_roamsBy 8 = .ok (.iload 4, 2) := by decide +kernel
theorem dX9_roamsBy_10 : decode cX9_roamsBy 10 = .ok (.if_icmp .eq 16, 3) := by decide +kernel
theorem dX9_roamsBy_13 : decode cX9_roamsBy 13 = .ok (.iload_n 3, 1) := by decide +kernel
theorem dX9_roamsBy_14 : decode cX9_roamsBy 14 = .ok (.istore 4, 2) := by decide +kernel
theorem dX9_roamsBy_16 : decode cX9_roamsBy 16 = .ok (.aload_n 0, 1) := by decide +kernel
theorem dX9_roamsBy_17 : decode cX9_roamsBy 17 = .ok (.iload_n 3, 1) := by decide +kernel
theorem dX9_roamsBy_18 : decode cX9_roamsBy 18 = .ok (.iload_n 2, 1) := by decide +kernel
theorem dX9_roamsBy_19 : decode cX9_roamsBy 19 = .ok (.invokevirtual 227, 3) := by decide +kernel
theorem dX9_roamsBy_22 : decode cX9_roamsBy 22 = .ok (.istore_n 3, 1) := by decide +kernel
theorem dX9_roamsBy_23 : decode cX9_roamsBy 23 = .ok (.goto (-16), 3) := by decide +kernel
theorem dX9_roamsBy_26 : decode cX9_roamsBy 26 = .ok (.iload_n 3, 1) := by decide +kernel
theorem dX9_roamsBy_27 : decode cX9_roamsBy 27 = .ok (.ireturn, 1) := by decide +kernel
theorem dX9_all_0 : decode cX9_all 0 = .ok (.iconst 1, 1) := by decide +kernel
theorem dX9_all_1 : decode cX9_all 1 = .ok (.aload_n 0, 1) := by decide +kernel
theorem dX9_all_2 : decode cX9_all 2 = .ok (.getfield 9, 3) := by decide +kernel
theorem dX9_all_5 : decode cX9_all 5 = .ok (.iconst 3, 1) := by decide +kernel
theorem dX9_all_6 : decode cX9_all 6 = .ok (.iaload, 1) := by decide +kernel
theorem dX9_all_7 : decode cX9_all 7 = .ok (.ishl, 1) := by decide +kernel
theorem dX9_all_8 : decode cX9_all 8 = .ok (.iconst 1, 1) := by decide +kernel
theorem dX9_all_9 : decode cX9_all 9 = .ok (.isub, 1) := by decide +kernel
theorem dX9_all_10 : decode cX9_all 10 = .ok (.ireturn, 1) := by decide +kernel
theorem dX9_way_0 : decode cX9_way 0 = .ok (.iload_n 1, 1) := by decide +kernel
theorem dX9_way_1 : decode cX9_way 1 = .ok (.invokestatic 64, 3) := by decide +kernel
theorem dX9_way_4 : decode cX9_way 4 = .ok (.ifCond .eq 10, 3) := by decide +kernel
theorem dX9_way_7 : decode cX9_way 7 = .ok (.iload_n 2, 1) := by decide +kernel
theorem dX9_way_8 : decode cX9_way 8 = .ok (.invokestatic 64, 3) := by decide +kernel
theorem dX9_way_11 : decode cX9_way 11 = .ok (.ifCond .ne 10, 3) := by decide +kernel
theorem dX9_way_14 : decode cX9_way 14 = .ok (.aload_n 0, 1) := by decide +kernel
theorem dX9_way_15 : decode cX9_way 15 = .ok (.ldc 95, 2) := by decide +kernel
theorem dX9_way_17 : decode cX9_way 17 = .ok (.invokevirtual 96, 3) := by decide +kernel
theorem dX9_way_20 : decode cX9_way 20 = .ok (.ireturn, 1) := by decide +kernel
theorem dX9_way_21 : decode cX9_way 21 = .ok (.iconst 1, 1) := by decide +kernel
theorem dX9_way_22 : decode cX9_way 22 = .ok (.iload_n 1, 1) := by decide +kernel
theorem dX9_way_23 : decode cX9_way 23 = .ok (.ishl, 1) := by decide +kernel
theorem dX9_way_24 : decode cX9_way 24 = .ok (.istore_n 3, 1) := by decide +kernel
theorem dX9_way_25 : decode cX9_way 25 = .ok (.iconst 0, 1) := by decide +kernel
theorem dX9_way_26 : decode cX9_way 26 = .ok (.istore 4, 2) := by decide +kernel
theorem dX9_way_28 : decode cX9_way 28 = .ok (.iload 4, 2) := by decide +kernel
theorem dX9_way_30 : decode cX9_way 30 = .ok (.bipush 7, 2) := by decide +kernel
theorem dX9_way_32 : decode cX9_way 32 = .ok (.if_icmp .ge 31, 3) := by decide +kernel
theorem dX9_way_35 : decode cX9_way 35 = .ok (.iload_n 3, 1) := by decide +kernel
theorem dX9_way_36 : decode cX9_way 36 = .ok (.iload_n 2, 1) := by decide +kernel
theorem dX9_way_37 : decode cX9_way 37 = .ok (.ishr, 1) := by decide +kernel
theorem dX9_way_38 : decode cX9_way 38 = .ok (.iconst 1, 1) := by decide +kernel
theorem dX9_way_39 : decode cX9_way 39 = .ok (.iand, 1) := by decide +kernel
theorem dX9_way_40 : decode cX9_way 40 = .ok (.iconst 1, 1) := by decide +kernel
theorem dX9_way_41 : decode cX9_way 41 = .ok (.if_icmp .ne 6, 3) := by decide +kernel
theorem dX9_way_44 : decode cX9_way 44 = .ok (.iload 4, 2) := by decide +kernel
theorem dX9_way_46 : decode cX9_way 46 = .ok (.ireturn, 1) := by decide +kernel
theorem dX9_way_47 : decode cX9_way 47 = .ok (.aload_n 0, 1) := by decide +kernel
theorem dX9_way_48 : decode cX9_way 48 = .ok (.iload_n 3, 1) := by decide +kernel
theorem dX9_way_49 : decode cX9_way 49 = .ok (.aload_n 0, 1) := by decide +kernel
theorem dX9_way_50 : decode cX9_way 50 = .ok (.invokevirtual 230, 3) := by decide +kernel
theorem dX9_way_53 : decode cX9_way 53 = .ok (.invokevirtual 227, 3) := by decide +kernel
theorem dX9_way_56 : decode cX9_way 56 = .ok (.istore_n 3, 1) := by decide +kernel
theorem dX9_way_57 : decode cX9_way 57 = .ok (.iinc 4 1, 3) := by decide +kernel
theorem dX9_way_60 : decode cX9_way 60 = .ok (.goto (-32), 3) := by decide +kernel
theorem dX9_way_63 : decode cX9_way 63 = .ok (.aload_n 0, 1) := by decide +kernel
theorem dX9_way_64 : decode cX9_way 64 = .ok (.ldc 220, 2) := by decide +kernel
theorem dX9_way_66 : decode cX9_way 66 = .ok (.invokevirtual 96, 3) := by decide +kernel
theorem dX9_way_69 : decode cX9_way 69 = .ok (.ireturn, 1) := by decide +kernel
theorem dX9_cut_0 : decode cX9_cut 0 = .ok (.iload_n 1, 1) := by decide +kernel
theorem dX9_cut_1 : decode cX9_cut 1 = .ok (.iload_n 2, 1) := by decide +kernel
theorem dX9_cut_2 : decode cX9_cut 2 = .ok (.invokestatic 113, 3) := by decide +kernel
theorem dX9_cut_5 : decode cX9_cut 5 = .ok (.ifCond .eq 12, 3) := by decide +kernel
theorem dX9_cut_8 : decode cX9_cut 8 = .ok (.iload_n 3, 1) := by decide +kernel
theorem dX9_cut_9 : decode cX9_cut 9 = .ok (.iconst 0, 1) := by decide +kernel
theorem dX9_cut_10 : decode cX9_cut 10 = .ok (.iconst 1, 1) := by decide +kernel
theorem dX9_cut_11 : decode cX9_cut 11 = .ok (.invokestatic 60, 3) := by decide +kernel
theorem dX9_cut_14 : decode cX9_cut 14 = .ok (.ifCond .ne 10, 3) := by decide +kernel
theorem dX9_cut_17 : decode cX9_cut 17 = .ok (.aload_n 0, 1) := by decide +kernel
theorem dX9_cut_18 : decode cX9_cut 18 = .ok (.ldc 95, 2) := by decide +kernel
theorem dX9_cut_20 : decode cX9_cut 20 = .ok (.invokevirtual 96, 3) := by decide +kernel
theorem dX9_cut_23 : decode cX9_cut 23 = .ok (.ireturn, 1) := by decide +kernel
theorem dX9_cut_24 : decode cX9_cut 24 = .ok (.iconst (-1), 1) := by decide +kernel
theorem dX9_cut_25 : decode cX9_cut 25 = .ok (.istore 4, 2) := by decide +kernel
theorem dX9_cut_27 : decode cX9_cut 27 = .ok (.iconst 0, 1) := by decide +kernel
theorem dX9_cut_28 : decode cX9_cut 28 = .ok (.istore 5, 2) := by decide +kernel
theorem dX9_cut_30 : decode cX9_cut 30 = .ok (.iload 5, 2) := by decide +kernel
theorem dX9_cut_32 : decode cX9_cut 32 = .ok (.aload_n 0, 1) := by decide +kernel
theorem dX9_cut_33 : decode cX9_cut 33 = .ok (.invokevirtual 230, 3) := by decide +kernel
theorem dX9_cut_36 : decode cX9_cut 36 = .ok (.if_icmp .gt 69, 3) := by decide +kernel
theorem dX9_cut_39 : decode cX9_cut 39 = .ok (.iload 4, 2) := by decide +kernel
theorem dX9_cut_41 : decode cX9_cut 41 = .ok (.ifCond .lt 16, 3) := by decide +kernel
theorem dX9_cut_44 : decode cX9_cut 44 = .ok (.iload 5, 2) := by decide +kernel
theorem dX9_cut_46 : decode cX9_cut 46 = .ok (.invokestatic 233, 3) := by decide +kernel
theorem dX9_cut_49 : decode cX9_cut 49 = .ok (.iload 4, 2) := by decide +kernel
theorem dX9_cut_51 : decode cX9_cut 51 = .ok (.invokestatic 233, 3) := by decide +kernel
theorem dX9_cut_54 : decode cX9_cut 54 = .ok (.if_icmp .ge 7, 3) := by decide +kernel
theorem dX9_cut_57 : decode cX9_cut 57 = .ok (.iconst 1, 1) := by decide +kernel
theorem dX9_cut_58 : decode cX9_cut 58 = .ok (.goto 4, 3) := by decide +kernel
theorem dX9_cut_61 : decode cX9_cut 61 = .ok (.iconst 0, 1) := by decide +kernel
theorem dX9_cut_62 : decode cX9_cut 62 = .ok (.istore 6, 2) := by decide +kernel
theorem dX9_cut_64 : decode cX9_cut 64 = .ok (.iload 6, 2) := by decide +kernel
theorem dX9_cut_66 : decode cX9_cut 66 = .ok (.ifCond .eq 29, 3) := by decide +kernel
theorem dX9_cut_69 : decode cX9_cut 69 = .ok (.aload_n 0, 1) := by decide +kernel
theorem dX9_cut_70 : decode cX9_cut 70 = .ok (.iload_n 1, 1) := by decide +kernel
theorem dX9_cut_71 : decode cX9_cut 71 = .ok (.aload_n 0, 1) := by decide +kernel
theorem dX9_cut_72 : decode cX9_cut 72 = .ok (.invokevirtual 230, 3) := by decide +kernel
theorem dX9_cut_75 : decode cX9_cut 75 = .ok (.iload 5, 2) := by decide +kernel
theorem dX9_cut_77 : decode cX9_cut 77 = .ok (.iconst (-1), 1) := by decide +kernel
theorem dX9_cut_78 : decode cX9_cut 78 = .ok (.ixor, 1) := by decide +kernel
theorem dX9_cut_79 : decode cX9_cut 79 = .ok (.iand, 1) := by decide +kernel
theorem dX9_cut_80 : decode cX9_cut 80 = .ok (.invokevirtual 236, 3) := by decide +kernel
theorem dX9_cut_83 : decode cX9_cut 83 = .ok (.iload_n 2, 1) := by decide +kernel
theorem dX9_cut_84 : decode cX9_cut 84 = .ok (.ishr, 1) := by decide +kernel
theorem dX9_cut_85 : decode cX9_cut 85 = .ok (.iconst 1, 1) := by decide +kernel
theorem dX9_cut_86 : decode cX9_cut 86 = .ok (.iand, 1) := by decide +kernel
theorem dX9_cut_87 : decode cX9_cut 87 = .ok (.ifCond .ne 8, 3) := by decide +kernel
theorem dX9_cut_90 : decode cX9_cut 90 = .ok (.iload 5, 2) := by decide +kernel
theorem dX9_cut_92 : decode cX9_cut 92 = .ok (.goto 5, 3) := by decide +kernel
theorem dX9_cut_95 : decode cX9_cut 95 = .ok (.iload 4, 2) := by decide +kernel
theorem dX9_cut_97 : decode cX9_cut 97 = .ok (.istore 4, 2) := by decide +kernel
theorem dX9_cut_99 : decode cX9_cut 99 = .ok (.iinc 5 1, 3) := by decide +kernel
theorem dX9_cut_102 : decode cX9_cut 102 = .ok (.goto (-72), 3) := by decide +kernel
theorem dX9_cut_105 : decode cX9_cut 105 = .ok (.iload_n 3, 1) := by decide +kernel
theorem dX9_cut_106 : decode cX9_cut 106 = .ok (.ifCond .ne 11, 3) := by decide +kernel
theorem dX9_cut_109 : decode cX9_cut 109 = .ok (.iload 4, 2) := by decide +kernel
theorem dX9_cut_111 : decode cX9_cut 111 = .ok (.invokestatic 233, 3) := by decide +kernel
theorem dX9_cut_114 : decode cX9_cut 114 = .ok (.goto 5, 3) := by decide +kernel
theorem dX9_cut_117 : decode cX9_cut 117 = .ok (.iload 4, 2) := by decide +kernel
theorem dX9_cut_119 : decode cX9_cut 119 = .ok (.ireturn, 1) := by decide +kernel
theorem dX9_roams_0 : decode cX9_roams 0 = .ok (.iload_n 1, 1) := by decide +kernel
theorem dX9_roams_1 : decode cX9_roams 1 = .ok (.invokestatic 64, 3) := by decide +kernel
theorem dX9_roams_4 : decode cX9_roams 4 = .ok (.ifCond .eq 15, 3) := by decide +kernel
theorem dX9_roams_7 : decode cX9_roams 7 = .ok (.aload_n 0, 1) := by decide +kernel
theorem dX9_roams_8 : decode cX9_roams 8 = .ok (.iload_n 1, 1) := by decide +kernel
theorem dX9_roams_9 : decode cX9_roams 9 = .ok (.aload_n 0, 1) := by decide +kernel
theorem dX9_roams_10 : decode cX9_roams 10 = .ok (.invokevirtual 205, 3) := by decide +kernel
theorem dX9_roams_13 : decode cX9_roams 13 = .ok (.invokevirtual 236, 3) := by decide +kernel
theorem dX9_roams_16 : decode cX9_roams 16 = .ok (.goto 9, 3) := by decide +kernel
theorem dX9_roams_19 : decode cX9_roams 19 = .ok (.aload_n 0, 1) := by decide +kernel
theorem dX9_roams_20 : decode cX9_roams 20 = .ok (.ldc 95, 2) := by decide +kernel
theorem dX9_roams_22 : decode cX9_roams 22 = .ok (.invokevirtual 96, 3) := by decide +kernel
theorem dX9_roams_25 : decode cX9_roams 25 = .ok (.ireturn, 1) := by decide +kernel
theorem dX9_odds_0 : decode cX9_odds 0 = .ok (.iload_n 1, 1) := by decide +kernel
theorem dX9_odds_1 : decode cX9_odds 1 = .ok (.invokestatic 64, 3) := by decide +kernel
theorem dX9_odds_4 : decode cX9_odds 4 = .ok (.ifCond .eq 12, 3) := by decide +kernel
theorem dX9_odds_7 : decode cX9_odds 7 = .ok (.iload_n 2, 1) := by decide +kernel
theorem dX9_odds_8 : decode cX9_odds 8 = .ok (.iconst 0, 1) := by decide +kernel
theorem dX9_odds_9 : decode cX9_odds 9 = .ok (.iconst 1, 1) := by decide +kernel
theorem dX9_odds_10 : decode cX9_odds 10 = .ok (.invokestatic 60, 3) := by decide +kernel
theorem dX9_odds_13 : decode cX9_odds 13 = .ok (.ifCond .ne 10, 3) := by decide +kernel
theorem dX9_odds_16 : decode cX9_odds 16 = .ok (.aload_n 0, 1) := by decide +kernel
theorem dX9_odds_17 : decode cX9_odds 17 = .ok (.ldc 95, 2) := by decide +kernel
theorem dX9_odds_19 : decode cX9_odds 19 = .ok (.invokevirtual 96, 3) := by decide +kernel
theorem dX9_odds_22 : decode cX9_odds 22 = .ok (.ireturn, 1) := by decide +kernel
theorem dX9_odds_23 : decode cX9_odds 23 = .ok (.aload_n 0, 1) := by decide +kernel
theorem dX9_odds_24 : decode cX9_odds 24 = .ok (.getfield 9, 3) := by decide +kernel
theorem dX9_odds_27 : decode cX9_odds 27 = .ok (.iconst 3, 1) := by decide +kernel
theorem dX9_odds_28 : decode cX9_odds 28 = .ok (.iaload, 1) := by decide +kernel
theorem dX9_odds_29 : decode cX9_odds 29 = .ok (.istore_n 3, 1) := by decide +kernel
theorem dX9_odds_30 : decode cX9_odds 30 = .ok (.iload_n 3, 1) := by decide +kernel
theorem dX9_odds_31 : decode cX9_odds 31 = .ok (.ifCond .ne 10, 3) := by decide +kernel
theorem dX9_odds_34 : decode cX9_odds 34 = .ok (.aload_n 0, 1) := by decide +kernel
theorem dX9_odds_35 : decode cX9_odds 35 = .ok (.ldc 201, 2) := by decide +kernel
theorem dX9_odds_37 : decode cX9_odds 37 = .ok (.invokevirtual 96, 3) := by decide +kernel
theorem dX9_odds_40 : decode cX9_odds 40 = .ok (.ireturn, 1) := by decide +kernel
theorem dX9_odds_41 : decode cX9_odds 41 = .ok (.aload_n 0, 1) := by decide +kernel
theorem dX9_odds_42 : decode cX9_odds 42 = .ok (.iload_n 1, 1) := by decide +kernel
theorem dX9_odds_43 : decode cX9_odds 43 = .ok (.aload_n 0, 1) := by decide +kernel
theorem dX9_odds_44 : decode cX9_odds 44 = .ok (.invokevirtual 205, 3) := by decide +kernel
theorem dX9_odds_47 : decode cX9_odds 47 = .ok (.invokevirtual 236, 3) := by decide +kernel
theorem dX9_odds_50 : decode cX9_odds 50 = .ok (.istore 4, 2) := by decide +kernel
theorem dX9_odds_52 : decode cX9_odds 52 = .ok (.iconst 0, 1) := by decide +kernel
theorem dX9_odds_53 : decode cX9_odds 53 = .ok (.istore 5, 2) := by decide +kernel
theorem dX9_odds_55 : decode cX9_odds 55 = .ok (.iconst 0, 1) := by decide +kernel
theorem dX9_odds_56 : decode cX9_odds 56 = .ok (.istore 6, 2) := by decide +kernel
theorem dX9_odds_58 : decode cX9_odds 58 = .ok (.iload 6, 2) := by decide +kernel
theorem dX9_odds_60 : decode cX9_odds 60 = .ok (.aload_n 0, 1) := by decide +kernel
theorem dX9_odds_61 : decode cX9_odds 61 = .ok (.getfield 9, 3) := by decide +kernel
theorem dX9_odds_64 : decode cX9_odds 64 = .ok (.iconst 3, 1) := by decide +kernel
theorem dX9_odds_65 : decode cX9_odds 65 = .ok (.iaload, 1) := by decide +kernel
theorem dX9_odds_66 : decode cX9_odds 66 = .ok (.if_icmp .ge 38, 3) := by decide +kernel
theorem dX9_odds_69 : decode cX9_odds 69 = .ok (.iload 5, 2) := by decide +kernel
theorem dX9_odds_71 : decode cX9_odds 71 = .ok (.aload_n 0, 1) := by decide +kernel
theorem dX9_odds_72 : decode cX9_odds 72 = .ok (.iload_n 1, 1) := by decide +kernel
theorem dX9_odds_73 : decode cX9_odds 73 = .ok (.aload_n 0, 1) := by decide +kernel
theorem dX9_odds_74 : decode cX9_odds 74 = .ok (.invokevirtual 205, 3) := by decide +kernel
theorem dX9_odds_77 : decode cX9_odds 77 = .ok (.iconst 1, 1) := by decide +kernel
theorem dX9_odds_78 : decode cX9_odds 78 = .ok (.iload 6, 2) := by decide +kernel
theorem dX9_odds_80 : decode cX9_odds 80 = .ok (.ishl, 1) := by decide +kernel
theorem dX9_odds_81 : decode cX9_odds 81 = .ok (.ior, 1) := by decide +kernel
theorem dX9_odds_82 : decode cX9_odds 82 = .ok (.invokevirtual 236, 3) := by decide +kernel
theorem dX9_odds_85 : decode cX9_odds 85 = .ok (.iload 4, 2) := by decide +kernel
theorem dX9_odds_87 : decode cX9_odds 87 = .ok (.if_icmp .ne 7, 3) := by decide +kernel
theorem dX9_odds_90 : decode cX9_odds 90 = .ok (.iconst 0, 1) := by decide +kernel
theorem dX9_odds_91 : decode cX9_odds 91 = .ok (.goto 4, 3) := by decide +kernel
theorem dX9_odds_94 : decode cX9_odds 94 = .ok (.iconst 1, 1) := by decide +kernel
theorem dX9_odds_95 : decode cX9_odds 95 = .ok (.iadd, 1) := by decide +kernel
theorem dX9_odds_96 : decode cX9_odds 96 = .ok (.istore 5, 2) := by decide +kernel
theorem dX9_odds_98 : decode cX9_odds 98 = .ok (.iinc 6 1, 3) := by decide +kernel
theorem dX9_odds_101 : decode cX9_odds 101 = .ok (.goto (-43), 3) := by decide +kernel
theorem dX9_odds_104 : decode cX9_odds 104 = .ok (.iload_n 3, 1) := by decide +kernel
theorem dX9_odds_105 : decode cX9_odds 105 = .ok (.istore 6, 2) := by decide +kernel
theorem dX9_odds_107 : decode cX9_odds 107 = .ok (.iload 6, 2) := by decide +kernel
theorem dX9_odds_109 : decode cX9_odds 109 = .ok (.iconst 1, 1) := by decide +kernel
theorem dX9_odds_110 : decode cX9_odds 110 = .ok (.if_icmp .le 36, 3) := by decide +kernel
theorem dX9_odds_113 : decode cX9_odds 113 = .ok (.iload 5, 2) := by decide +kernel
theorem dX9_odds_115 : decode cX9_odds 115 = .ok (.iload 6, 2) := by decide +kernel
theorem dX9_odds_117 : decode cX9_odds 117 = .ok (.irem, 1) := by decide +kernel
theorem dX9_odds_118 : decode cX9_odds 118 = .ok (.ifCond .ne 22, 3) := by decide +kernel
theorem dX9_odds_121 : decode cX9_odds 121 = .ok (.iload_n 3, 1) := by decide +kernel
theorem dX9_odds_122 : decode cX9_odds 122 = .ok (.iload 6, 2) := by decide +kernel
theorem dX9_odds_124 : decode cX9_odds 124 = .ok (.irem, 1) := by decide +kernel
theorem dX9_odds_125 : decode cX9_odds 125 = .ok (.ifCond .ne 15, 3) := by decide +kernel
theorem dX9_odds_128 : decode cX9_odds 128 = .ok (.iload 5, 2) := by decide +kernel
theorem dX9_odds_130 : decode cX9_odds 130 = .ok (.iload 6, 2) := by decide +kernel
theorem dX9_odds_132 : decode cX9_odds 132 = .ok (.idiv, 1) := by decide +kernel
theorem dX9_odds_133 : decode cX9_odds 133 = .ok (.istore 5, 2) := by decide +kernel
theorem dX9_odds_135 : decode cX9_odds 135 = .ok (.iload_n 3, 1) := by decide +kernel
theorem dX9_odds_136 : decode cX9_odds 136 = .ok (.iload 6, 2) := by decide +kernel
theorem dX9_odds_138 : decode cX9_odds 138 = .ok (.idiv, 1) := by decide +kernel
theorem dX9_odds_139 : decode cX9_odds 139 = .ok (.istore_n 3, 1) := by decide +kernel
theorem dX9_odds_140 : decode cX9_odds 140 = .ok (.iinc 6 (-1), 3) := by decide +kernel
theorem dX9_odds_143 : decode cX9_odds 143 = .ok (.goto (-36), 3) := by decide +kernel
theorem dX9_odds_146 : decode cX9_odds 146 = .ok (.iload_n 2, 1) := by decide +kernel
theorem dX9_odds_147 : decode cX9_odds 147 = .ok (.ifCond .ne 8, 3) := by decide +kernel
theorem dX9_odds_150 : decode cX9_odds 150 = .ok (.iload 5, 2) := by decide +kernel
theorem dX9_odds_152 : decode cX9_odds 152 = .ok (.goto 4, 3) := by decide +kernel
theorem dX9_odds_155 : decode cX9_odds 155 = .ok (.iload_n 3, 1) := by decide +kernel
theorem dX9_odds_156 : decode cX9_odds 156 = .ok (.ireturn, 1) := by decide +kernel
theorem dX9_isSo_0 : decode cX9_isSo 0 = .ok (.iconst 1, 1) := by decide +kernel
theorem dX9_isSo_1 : decode cX9_isSo 1 = .ok (.istore_n 2, 1) := by decide +kernel
theorem dX9_isSo_2 : decode cX9_isSo 2 = .ok (.iconst 0, 1) := by decide +kernel
theorem dX9_isSo_3 : decode cX9_isSo 3 = .ok (.istore_n 3, 1) := by decide +kernel
theorem dX9_isSo_4 : decode cX9_isSo 4 = .ok (.iload_n 3, 1) := by decide +kernel
theorem dX9_isSo_5 : decode cX9_isSo 5 = .ok (.aload_n 0, 1) := by decide +kernel
theorem dX9_isSo_6 : decode cX9_isSo 6 = .ok (.getfield 25, 3) := by decide +kernel
theorem dX9_isSo_9 : decode cX9_isSo 9 = .ok (.iload_n 1, 1) := by decide +kernel
theorem dX9_isSo_10 : decode cX9_isSo 10 = .ok (.iaload, 1) := by decide +kernel
theorem dX9_isSo_11 : decode cX9_isSo 11 = .ok (.if_icmp .ge 39, 3) := by decide +kernel
theorem dX9_isSo_14 : decode cX9_isSo 14 = .ok (.iload_n 2, 1) := by decide +kernel
theorem dX9_isSo_15 : decode cX9_isSo 15 = .ok (.ifCond .eq 35, 3) := by decide +kernel
theorem dX9_isSo_18 : decode cX9_isSo 18 = .ok (.aload_n 0, 1) := by decide +kernel
theorem dX9_isSo_19 : decode cX9_isSo 19 = .ok (.getfield 28, 3) := by decide +kernel
theorem dX9_isSo_22 : decode cX9_isSo 22 = .ok (.bipush 24, 2) := by decide +kernel
theorem dX9_isSo_24 : decode cX9_isSo 24 = .ok (.iload_n 1, 1) := by decide +kernel
theorem dX9_isSo_25 : decode cX9_isSo 25 = .ok (.imul, 1) := by decide +kernel
theorem dX9_isSo_26 : decode cX9_isSo 26 = .ok (.iload_n 3, 1) := by decide +kernel
theorem dX9_isSo_27 : decode cX9_isSo 27 = .ok (.iadd, 1) := by decide +kernel
theorem dX9_isSo_28 : decode cX9_isSo 28 = .ok (.iaload, 1) := by decide +kernel
theorem dX9_isSo_29 : decode cX9_isSo 29 = .ok (.aload_n 0, 1) := by decide +kernel
theorem dX9_isSo_30 : decode cX9_isSo 30 = .ok (.iload_n 3, 1) := by decide +kernel
theorem dX9_isSo_31 : decode cX9_isSo 31 = .ok (.iconst 3, 1) := by decide +kernel
theorem dX9_isSo_32 : decode cX9_isSo 32 = .ok (.invokevirtual 68, 3) := by decide +kernel
theorem dX9_isSo_35 : decode cX9_isSo 35 = .ok (.if_icmp .ne 7, 3) := by decide +kernel
theorem dX9_isSo_38 : decode cX9_isSo 38 = .ok (.iconst 1, 1) := by decide +kernel
theorem dX9_isSo_39 : decode cX9_isSo 39 = .ok (.goto 4, 3) := by decide +kernel
theorem dX9_isSo_42 : decode cX9_isSo 42 = .ok (.iconst 0, 1) := by decide +kernel
theorem dX9_isSo_43 : decode cX9_isSo 43 = .ok (.istore_n 2, 1) := by decide +kernel
theorem dX9_isSo_44 : decode cX9_isSo 44 = .ok (.iinc 3 1, 3) := by decide +kernel
theorem dX9_isSo_47 : decode cX9_isSo 47 = .ok (.goto (-43), 3) := by decide +kernel
theorem dX9_isSo_50 : decode cX9_isSo 50 = .ok (.iload_n 2, 1) := by decide +kernel
theorem dX9_isSo_51 : decode cX9_isSo 51 = .ok (.ireturn, 1) := by decide +kernel
theorem dX9_fits_0 : decode cX9_fits 0 = .ok (.aload_n 0, 1) := by decide +kernel
theorem dX9_fits_1 : decode cX9_fits 1 = .ok (.iload_n 1, 1) := by decide +kernel
theorem dX9_fits_2 : decode cX9_fits 2 = .ok (.invokevirtual 239, 3) := by decide +kernel
theorem dX9_fits_5 : decode cX9_fits 5 = .ok (.istore_n 2, 1) := by decide +kernel
theorem dX9_fits_6 : decode cX9_fits 6 = .ok (.iload_n 2, 1) := by decide +kernel
theorem dX9_fits_7 : decode cX9_fits 7 = .ok (.ifCond .eq 9, 3) := by decide +kernel
theorem dX9_fits_10 : decode cX9_fits 10 = .ok (.aload_n 0, 1) := by decide +kernel
theorem dX9_fits_11 : decode cX9_fits 11 = .ok (.iload_n 2, 1) := by decide +kernel
theorem dX9_fits_12 : decode cX9_fits 12 = .ok (.invokevirtual 96, 3) := by decide +kernel
theorem dX9_fits_15 : decode cX9_fits 15 = .ok (.ireturn, 1) := by decide +kernel
theorem dX9_fits_16 : decode cX9_fits 16 = .ok (.aload_n 0, 1) := by decide +kernel
theorem dX9_fits_17 : decode cX9_fits 17 = .ok (.getfield 25, 3) := by decide +kernel
theorem dX9_fits_20 : decode cX9_fits 20 = .ok (.iload_n 1, 1) := by decide +kernel
theorem dX9_fits_21 : decode cX9_fits 21 = .ok (.iaload, 1) := by decide +kernel
theorem dX9_fits_22 : decode cX9_fits 22 = .ok (.aload_n 0, 1) := by decide +kernel
theorem dX9_fits_23 : decode cX9_fits 23 = .ok (.getfield 9, 3) := by decide +kernel
theorem dX9_fits_26 : decode cX9_fits 26 = .ok (.iconst 3, 1) := by decide +kernel
theorem dX9_fits_27 : decode cX9_fits 27 = .ok (.iaload, 1) := by decide +kernel
theorem dX9_fits_28 : decode cX9_fits 28 = .ok (.if_icmp .le 10, 3) := by decide +kernel
theorem dX9_fits_31 : decode cX9_fits 31 = .ok (.aload_n 0, 1) := by decide +kernel
theorem dX9_fits_32 : decode cX9_fits 32 = .ok (.ldc 220, 2) := by decide +kernel
theorem dX9_fits_34 : decode cX9_fits 34 = .ok (.invokevirtual 96, 3) := by decide +kernel
theorem dX9_fits_37 : decode cX9_fits 37 = .ok (.ireturn, 1) := by decide +kernel
theorem dX9_fits_38 : decode cX9_fits 38 = .ok (.aload_n 0, 1) := by decide +kernel
theorem dX9_fits_39 : decode cX9_fits 39 = .ok (.invokevirtual 214, 3) := by decide +kernel
theorem dX9_fits_42 : decode cX9_fits 42 = .ok (.iconst 0, 1) := by decide +kernel
theorem dX9_fits_43 : decode cX9_fits 43 = .ok (.istore_n 3, 1) := by decide +kernel
theorem dX9_fits_44 : decode cX9_fits 44 = .ok (.iload_n 3, 1) := by decide +kernel
theorem dX9_fits_45 : decode cX9_fits 45 = .ok (.bipush 60, 2) := by decide +kernel
theorem dX9_fits_47 : decode cX9_fits 47 = .ok (.if_icmp .gt 21, 3) := by decide +kernel
theorem dX9_fits_50 : decode cX9_fits 50 = .ok (.aload_n 0, 1) := by decide +kernel
theorem dX9_fits_51 : decode cX9_fits 51 = .ok (.iload_n 1, 1) := by decide +kernel
theorem dX9_fits_52 : decode cX9_fits 52 = .ok (.invokevirtual 242, 3) := by decide +kernel
theorem dX9_fits_55 : decode cX9_fits 55 = .ok (.ifCond .ne 13, 3) := by decide +kernel
theorem dX9_fits_58 : decode cX9_fits 58 = .ok (.aload_n 0, 1) := by decide +kernel
theorem dX9_fits_59 : decode cX9_fits 59 = .ok (.invokevirtual 202, 3) := by decide +kernel
theorem dX9_fits_62 : decode cX9_fits 62 = .ok (.iinc 3 1, 3) := by decide +kernel
theorem dX9_fits_65 : decode cX9_fits 65 = .ok (.goto (-21), 3) := by decide +kernel
theorem dX9_fits_68 : decode cX9_fits 68 = .ok (.aload_n 0, 1) := by decide +kernel
theorem dX9_fits_69 : decode cX9_fits 69 = .ok (.invokevirtual 217, 3) := by decide +kernel
theorem dX9_fits_72 : decode cX9_fits 72 = .ok (.iload_n 3, 1) := by decide +kernel
theorem dX9_fits_73 : decode cX9_fits 73 = .ok (.bipush 60, 2) := by decide +kernel
theorem dX9_fits_75 : decode cX9_fits 75 = .ok (.if_icmp .le 12, 3) := by decide +kernel
theorem dX9_fits_78 : decode cX9_fits 78 = .ok (.aload_n 0, 1) := by decide +kernel
theorem dX9_fits_79 : decode cX9_fits 79 = .ok (.ldc 220, 2) := by decide +kernel
theorem dX9_fits_81 : decode cX9_fits 81 = .ok (.invokevirtual 96, 3) := by decide +kernel
theorem dX9_fits_84 : decode cX9_fits 84 = .ok (.goto 4, 3) := by decide +kernel
theorem dX9_fits_87 : decode cX9_fits 87 = .ok (.iload_n 3, 1) := by decide +kernel
theorem dX9_fits_88 : decode cX9_fits 88 = .ok (.ireturn, 1) := by decide +kernel
theorem dX9_begins_0 : decode cX9_begins 0 = .ok (.aload_n 0, 1) := by decide +kernel
theorem dX9_begins_1 : decode cX9_begins 1 = .ok (.getfield 245, 3) := by decide +kernel
theorem dX9_begins_4 : decode cX9_begins 4 = .ok (.bipush 30, 2) := by decide +kernel
theorem dX9_begins_6 : decode cX9_begins 6 = .ok (.if_icmp .ge 23, 3) := by decide +kernel
theorem dX9_begins_9 : decode cX9_begins 9 = .ok (.aload_n 0, 1) := by decide +kernel
theorem dX9_begins_10 : decode cX9_begins 10 = .ok (.getfield 52, 3) := by decide +kernel
theorem dX9_begins_13 : decode cX9_begins 13 = .ok (.aload_n 0, 1) := by decide +kernel
theorem dX9_begins_14 : decode cX9_begins 14 = .ok (.getfield 245, 3) := by decide +kernel
theorem dX9_begins_17 : decode cX9_begins 17 = .ok (.iload_n 1, 1) := by decide +kernel
theorem dX9_begins_18 : decode cX9_begins 18 = .ok (.iastore, 1) := by decide +kernel
theorem dX9_begins_19 : decode cX9_begins 19 = .ok (.aload_n 0, 1) := by decide +kernel
theorem dX9_begins_20 : decode cX9_begins 20 = .ok (.dup, 1) := by decide +kernel
theorem dX9_begins_21 : decode cX9_begins 21 = .ok (.getfield 245, 3) := by decide +kernel
theorem dX9_begins_24 : decode cX9_begins 24 = .ok (.iconst 1, 1) := by decide +kernel
theorem dX9_begins_25 : decode cX9_begins 25 = .ok (.iadd, 1) := by decide +kernel
theorem dX9_begins_26 : decode cX9_begins 26 = .ok (.putfield 245, 3) := by decide +kernel
theorem dX9_begins_29 : decode cX9_begins 29 = .ok (.return_, 1) := by decide +kernel
theorem dX9_plainNods_0 : decode cX9_plainNods 0 = .ok (.aload_n 0, 1) := by decide +kernel
theorem dX9_plainNods_1 : decode cX9_plainNods 1 = .ok (.bipush 10, 2) := by decide +kernel
theorem dX9_plainNods_3 : decode cX9_plainNods 3 = .ok (.invokevirtual 248, 3) := by decide +kernel
theorem dX9_plainNods_6 : decode cX9_plainNods 6 = .ok (.iload_n 2, 1) := by decide +kernel
theorem dX9_plainNods_7 : decode cX9_plainNods 7 = .ok (.iload_n 1, 1) := by decide +kernel
theorem dX9_plainNods_8 : decode cX9_plainNods 8 = .ok (.iadd, 1) := by decide +kernel
theorem dX9_plainNods_9 : decode cX9_plainNods 9 = .ok (.ireturn, 1) := by decide +kernel
theorem dX9_loverNods_0 : decode cX9_loverNods 0 = .ok (.aload_n 0, 1) := by decide +kernel
theorem dX9_loverNods_1 : decode cX9_loverNods 1 = .ok (.bipush 20, 2) := by decide +kernel
theorem dX9_loverNods_3 : decode cX9_loverNods 3 = .ok (.invokevirtual 248, 3) := by decide +kernel
theorem dX9_loverNods_6 : decode cX9_loverNods 6 = .ok (.aload_n 0, 1) := by decide +kernel
