/-! each instruction decoded -/
theorem d_Mo_pass_13 : decode M_Mo_pass.2.1 13 = .ok (.iconst 0, 1) := by decide +kernel
theorem d_Mo_pass_14 : decode M_Mo_pass.2.1 14 = .ok (.istore_n 2, 1) := by decide +kernel
theorem d_Mo_pass_15 : decode M_Mo_pass.2.1 15 = .ok (.iload_n 2, 1) := by decide +kernel
theorem d_Mo_pass_16 : decode M_Mo_pass.2.1 16 = .ok (.iload_n 1, 1) := by decide +kernel
theorem d_Mo_pass_17 : decode M_Mo_pass.2.1 17 = .ok (.if_icmp .ge 75, 3) := by decide +kernel
theorem d_Mo_pass_20 : decode M_Mo_pass.2.1 20 = .ok (.aload_n 0, 1) := by decide +kernel
theorem d_Mo_pass_21 : decode M_Mo_pass.2.1 21 = .ok (.aload_n 0, 1) := by decide +kernel
theorem d_Mo_pass_22 : decode M_Mo_pass.2.1 22 = .ok (.getfield 112, 3) := by decide +kernel
theorem d_Mo_pass_25 : decode M_Mo_pass.2.1 25 = .ok (.iconst 1, 1) := by decide +kernel
theorem d_Mo_pass_26 : decode M_Mo_pass.2.1 26 = .ok (.iadd, 1) := by decide +kernel
theorem d_Mo_pass_27 : decode M_Mo_pass.2.1 27 = .ok (.putfield 112, 3) := by decide +kernel
theorem d_Mo_pass_30 : decode M_Mo_pass.2.1 30 = .ok (.iconst 0, 1) := by decide +kernel
theorem d_Mo_pass_31 : decode M_Mo_pass.2.1 31 = .ok (.istore_n 3, 1) := by decide +kernel
theorem d_Mo_pass_32 : decode M_Mo_pass.2.1 32 = .ok (.iload_n 3, 1) := by decide +kernel
theorem d_Mo_pass_33 : decode M_Mo_pass.2.1 33 = .ok (.bipush 18, 2) := by decide +kernel
theorem d_Mo_pass_35 : decode M_Mo_pass.2.1 35 = .ok (.if_icmp .ge 47, 3) := by decide +kernel
theorem d_Mo_pass_38 : decode M_Mo_pass.2.1 38 = .ok (.aload_n 0, 1) := by decide +kernel
theorem d_Mo_pass_39 : decode M_Mo_pass.2.1 39 = .ok (.getfield 112, 3) := by decide +kernel
theorem d_Mo_pass_42 : decode M_Mo_pass.2.1 42 = .ok (.iconst 5, 1) := by decide +kernel
theorem d_Mo_pass_43 : decode M_Mo_pass.2.1 43 = .ok (.irem, 1) := by decide +kernel
theorem d_Mo_pass_44 : decode M_Mo_pass.2.1 44 = .ok (.ifCond .ne 38, 3) := by decide +kernel
theorem d_Mo_pass_47 : decode M_Mo_pass.2.1 47 = .ok (.aload_n 0, 1) := by decide +kernel
theorem d_Mo_pass_48 : decode M_Mo_pass.2.1 48 = .ok (.iload_n 3, 1) := by decide +kernel
theorem d_Mo_pass_49 : decode M_Mo_pass.2.1 49 = .ok (.iconst 3, 1) := by decide +kernel
theorem d_Mo_pass_50 : decode M_Mo_pass.2.1 50 = .ok (.idiv, 1) := by decide +kernel
theorem d_Mo_pass_51 : decode M_Mo_pass.2.1 51 = .ok (.iload_n 3, 1) := by decide +kernel
theorem d_Mo_pass_52 : decode M_Mo_pass.2.1 52 = .ok (.iconst 3, 1) := by decide +kernel
theorem d_Mo_pass_53 : decode M_Mo_pass.2.1 53 = .ok (.irem, 1) := by decide +kernel
theorem d_Mo_pass_54 : decode M_Mo_pass.2.1 54 = .ok (.invokevirtual 126, 3) := by decide +kernel
theorem d_Mo_pass_57 : decode M_Mo_pass.2.1 57 = .ok (.istore 4, 2) := by decide +kernel
theorem d_Mo_pass_59 : decode M_Mo_pass.2.1 59 = .ok (.iload 4, 2) := by decide +kernel
theorem d_Mo_pass_61 : decode M_Mo_pass.2.1 61 = .ok (.ifCond .lt 15, 3) := by decide +kernel
theorem d_Mo_pass_64 : decode M_Mo_pass.2.1 64 = .ok (.aload_n 0, 1) := by decide +kernel
theorem d_Mo_pass_65 : decode M_Mo_pass.2.1 65 = .ok (.iload_n 3, 1) := by decide +kernel
theorem d_Mo_pass_66 : decode M_Mo_pass.2.1 66 = .ok (.iconst 3, 1) := by decide +kernel
theorem d_Mo_pass_67 : decode M_Mo_pass.2.1 67 = .ok (.idiv, 1) := by decide +kernel
theorem d_Mo_pass_68 : decode M_Mo_pass.2.1 68 = .ok (.iload 4, 2) := by decide +kernel
theorem d_Mo_pass_70 : decode M_Mo_pass.2.1 70 = .ok (.iload_n 3, 1) := by decide +kernel
theorem d_Mo_pass_71 : decode M_Mo_pass.2.1 71 = .ok (.iconst 3, 1) := by decide +kernel
theorem d_Mo_pass_72 : decode M_Mo_pass.2.1 72 = .ok (.irem, 1) := by decide +kernel
theorem d_Mo_pass_73 : decode M_Mo_pass.2.1 73 = .ok (.invokevirtual 122, 3) := by decide +kernel
theorem d_Mo_pass_76 : decode M_Mo_pass.2.1 76 = .ok (.iinc 3 1, 3) := by decide +kernel
theorem d_Mo_pass_79 : decode M_Mo_pass.2.1 79 = .ok (.goto (-47), 3) := by decide +kernel
theorem d_Mo_pass_82 : decode M_Mo_pass.2.1 82 = .ok (.aload_n 0, 1) := by decide +kernel
theorem d_Mo_pass_83 : decode M_Mo_pass.2.1 83 = .ok (.invokevirtual 109, 3) := by decide +kernel
theorem d_Mo_pass_86 : decode M_Mo_pass.2.1 86 = .ok (.iinc 2 1, 3) := by decide +kernel
theorem d_Mo_pass_89 : decode M_Mo_pass.2.1 89 = .ok (.goto (-74), 3) := by decide +kernel
theorem d_Mo_pass_92 : decode M_Mo_pass.2.1 92 = .ok (.iconst 1, 1) := by decide +kernel
theorem d_Mo_pass_93 : decode M_Mo_pass.2.1 93 = .ok (.ireturn, 1) := by decide +kernel
theorem d_Mo_shared_0 : decode M_Mo_shared.2.1 0 = .ok (.iload_n 1, 1) := by decide +kernel
theorem d_Mo_shared_1 : decode M_Mo_shared.2.1 1 = .ok (.invokestatic 99, 3) := by decide +kernel
theorem d_Mo_shared_4 : decode M_Mo_shared.2.1 4 = .ok (.ifCond .eq 23, 3) := by decide +kernel
theorem d_Mo_shared_7 : decode M_Mo_shared.2.1 7 = .ok (.iload_n 2, 1) := by decide +kernel
theorem d_Mo_shared_8 : decode M_Mo_shared.2.1 8 = .ok (.invokestatic 115, 3) := by decide +kernel
theorem d_Mo_shared_11 : decode M_Mo_shared.2.1 11 = .ok (.ifCond .eq 16, 3) := by decide +kernel
theorem d_Mo_shared_14 : decode M_Mo_shared.2.1 14 = .ok (.aload_n 0, 1) := by decide +kernel
theorem d_Mo_shared_15 : decode M_Mo_shared.2.1 15 = .ok (.getfield 29, 3) := by decide +kernel
theorem d_Mo_shared_18 : decode M_Mo_shared.2.1 18 = .ok (.iconst 3, 1) := by decide +kernel
theorem d_Mo_shared_19 : decode M_Mo_shared.2.1 19 = .ok (.iload_n 1, 1) := by decide +kernel
theorem d_Mo_shared_20 : decode M_Mo_shared.2.1 20 = .ok (.imul, 1) := by decide +kernel
theorem d_Mo_shared_21 : decode M_Mo_shared.2.1 21 = .ok (.iload_n 2, 1) := by decide +kernel
theorem d_Mo_shared_22 : decode M_Mo_shared.2.1 22 = .ok (.iadd, 1) := by decide +kernel
theorem d_Mo_shared_23 : decode M_Mo_shared.2.1 23 = .ok (.iaload, 1) := by decide +kernel
theorem d_Mo_shared_24 : decode M_Mo_shared.2.1 24 = .ok (.goto 4, 3) := by decide +kernel
theorem d_Mo_shared_27 : decode M_Mo_shared.2.1 27 = .ok (.iconst (-1), 1) := by decide +kernel
theorem d_Mo_shared_28 : decode M_Mo_shared.2.1 28 = .ok (.ireturn, 1) := by decide +kernel
theorem d_Mo_entry_0 : decode M_Mo_entry.2.1 0 = .ok (.iload_n 1, 1) := by decide +kernel
theorem d_Mo_entry_1 : decode M_Mo_entry.2.1 1 = .ok (.invokestatic 99, 3) := by decide +kernel
theorem d_Mo_entry_4 : decode M_Mo_entry.2.1 4 = .ok (.ifCond .eq 17, 3) := by decide +kernel
theorem d_Mo_entry_7 : decode M_Mo_entry.2.1 7 = .ok (.iload_n 2, 1) := by decide +kernel
theorem d_Mo_entry_8 : decode M_Mo_entry.2.1 8 = .ok (.invokestatic 99, 3) := by decide +kernel
theorem d_Mo_entry_11 : decode M_Mo_entry.2.1 11 = .ok (.ifCond .eq 10, 3) := by decide +kernel
theorem d_Mo_entry_14 : decode M_Mo_entry.2.1 14 = .ok (.iload_n 3, 1) := by decide +kernel
theorem d_Mo_entry_15 : decode M_Mo_entry.2.1 15 = .ok (.invokestatic 115, 3) := by decide +kernel
theorem d_Mo_entry_18 : decode M_Mo_entry.2.1 18 = .ok (.ifCond .ne 5, 3) := by decide +kernel
theorem d_Mo_entry_21 : decode M_Mo_entry.2.1 21 = .ok (.iconst (-1), 1) := by decide +kernel
theorem d_Mo_entry_22 : decode M_Mo_entry.2.1 22 = .ok (.ireturn, 1) := by decide +kernel
theorem d_Mo_entry_23 : decode M_Mo_entry.2.1 23 = .ok (.bipush 18, 2) := by decide +kernel
theorem d_Mo_entry_25 : decode M_Mo_entry.2.1 25 = .ok (.iload_n 1, 1) := by decide +kernel
theorem d_Mo_entry_26 : decode M_Mo_entry.2.1 26 = .ok (.imul, 1) := by decide +kernel
theorem d_Mo_entry_27 : decode M_Mo_entry.2.1 27 = .ok (.iconst 3, 1) := by decide +kernel
theorem d_Mo_entry_28 : decode M_Mo_entry.2.1 28 = .ok (.iload_n 2, 1) := by decide +kernel
theorem d_Mo_entry_29 : decode M_Mo_entry.2.1 29 = .ok (.imul, 1) := by decide +kernel
theorem d_Mo_entry_30 : decode M_Mo_entry.2.1 30 = .ok (.iadd, 1) := by decide +kernel
theorem d_Mo_entry_31 : decode M_Mo_entry.2.1 31 = .ok (.iload_n 3, 1) := by decide +kernel
theorem d_Mo_entry_32 : decode M_Mo_entry.2.1 32 = .ok (.iadd, 1) := by decide +kernel
theorem d_Mo_entry_33 : decode M_Mo_entry.2.1 33 = .ok (.istore 4, 2) := by decide +kernel
theorem d_Mo_entry_35 : decode M_Mo_entry.2.1 35 = .ok (.aload_n 0, 1) := by decide +kernel
theorem d_Mo_entry_36 : decode M_Mo_entry.2.1 36 = .ok (.getfield 47, 3) := by decide +kernel
theorem d_Mo_entry_39 : decode M_Mo_entry.2.1 39 = .ok (.iload 4, 2) := by decide +kernel
theorem d_Mo_entry_41 : decode M_Mo_entry.2.1 41 = .ok (.iaload, 1) := by decide +kernel
theorem d_Mo_entry_42 : decode M_Mo_entry.2.1 42 = .ok (.aload_n 0, 1) := by decide +kernel
theorem d_Mo_entry_43 : decode M_Mo_entry.2.1 43 = .ok (.getfield 112, 3) := by decide +kernel
theorem d_Mo_entry_46 : decode M_Mo_entry.2.1 46 = .ok (.if_icmp .le 7, 3) := by decide +kernel
theorem d_Mo_entry_49 : decode M_Mo_entry.2.1 49 = .ok (.iconst 1, 1) := by decide +kernel
theorem d_Mo_entry_50 : decode M_Mo_entry.2.1 50 = .ok (.goto 4, 3) := by decide +kernel
theorem d_Mo_entry_53 : decode M_Mo_entry.2.1 53 = .ok (.iconst 0, 1) := by decide +kernel
theorem d_Mo_entry_54 : decode M_Mo_entry.2.1 54 = .ok (.istore 5, 2) := by decide +kernel
theorem d_Mo_entry_56 : decode M_Mo_entry.2.1 56 = .ok (.aload_n 0, 1) := by decide +kernel
theorem d_Mo_entry_57 : decode M_Mo_entry.2.1 57 = .ok (.getfield 50, 3) := by decide +kernel
theorem d_Mo_entry_60 : decode M_Mo_entry.2.1 60 = .ok (.iload 4, 2) := by decide +kernel
theorem d_Mo_entry_62 : decode M_Mo_entry.2.1 62 = .ok (.baload, 1) := by decide +kernel
theorem d_Mo_entry_63 : decode M_Mo_entry.2.1 63 = .ok (.ifCond .eq 10, 3) := by decide +kernel
theorem d_Mo_entry_66 : decode M_Mo_entry.2.1 66 = .ok (.iload 5, 2) := by decide +kernel
theorem d_Mo_entry_68 : decode M_Mo_entry.2.1 68 = .ok (.iconst 2, 1) := by decide +kernel
theorem d_Mo_entry_69 : decode M_Mo_entry.2.1 69 = .ok (.iadd, 1) := by decide +kernel
theorem d_Mo_entry_70 : decode M_Mo_entry.2.1 70 = .ok (.goto 5, 3) := by decide +kernel
theorem d_Mo_entry_73 : decode M_Mo_entry.2.1 73 = .ok (.iload 5, 2) := by decide +kernel
theorem d_Mo_entry_75 : decode M_Mo_entry.2.1 75 = .ok (.istore 5, 2) := by decide +kernel
theorem d_Mo_entry_77 : decode M_Mo_entry.2.1 77 = .ok (.aload_n 0, 1) := by decide +kernel
theorem d_Mo_entry_78 : decode M_Mo_entry.2.1 78 = .ok (.getfield 35, 3) := by decide +kernel
theorem d_Mo_entry_81 : decode M_Mo_entry.2.1 81 = .ok (.iload 4, 2) := by decide +kernel
theorem d_Mo_entry_83 : decode M_Mo_entry.2.1 83 = .ok (.iaload, 1) := by decide +kernel
theorem d_Mo_entry_84 : decode M_Mo_entry.2.1 84 = .ok (.ifCond .lt 10, 3) := by decide +kernel
theorem d_Mo_entry_87 : decode M_Mo_entry.2.1 87 = .ok (.iload 5, 2) := by decide +kernel
theorem d_Mo_entry_89 : decode M_Mo_entry.2.1 89 = .ok (.iconst 4, 1) := by decide +kernel
theorem d_Mo_entry_90 : decode M_Mo_entry.2.1 90 = .ok (.iadd, 1) := by decide +kernel
theorem d_Mo_entry_91 : decode M_Mo_entry.2.1 91 = .ok (.goto 5, 3) := by decide +kernel
theorem d_Mo_entry_94 : decode M_Mo_entry.2.1 94 = .ok (.iload 5, 2) := by decide +kernel
theorem d_Mo_entry_96 : decode M_Mo_entry.2.1 96 = .ok (.istore 5, 2) := by decide +kernel
theorem d_Mo_entry_98 : decode M_Mo_entry.2.1 98 = .ok (.aload_n 0, 1) := by decide +kernel
theorem d_Mo_entry_99 : decode M_Mo_entry.2.1 99 = .ok (.getfield 41, 3) := by decide +kernel
theorem d_Mo_entry_102 : decode M_Mo_entry.2.1 102 = .ok (.iload 4, 2) := by decide +kernel
theorem d_Mo_entry_104 : decode M_Mo_entry.2.1 104 = .ok (.iaload, 1) := by decide +kernel
theorem d_Mo_entry_105 : decode M_Mo_entry.2.1 105 = .ok (.ifCond .lt 11, 3) := by decide +kernel
theorem d_Mo_entry_108 : decode M_Mo_entry.2.1 108 = .ok (.iload 5, 2) := by decide +kernel
theorem d_Mo_entry_110 : decode M_Mo_entry.2.1 110 = .ok (.bipush 8, 2) := by decide +kernel
theorem d_Mo_entry_112 : decode M_Mo_entry.2.1 112 = .ok (.iadd, 1) := by decide +kernel
theorem d_Mo_entry_113 : decode M_Mo_entry.2.1 113 = .ok (.goto 5, 3) := by decide +kernel
theorem d_Mo_entry_116 : decode M_Mo_entry.2.1 116 = .ok (.iload 5, 2) := by decide +kernel
theorem d_Mo_entry_118 : decode M_Mo_entry.2.1 118 = .ok (.istore 5, 2) := by decide +kernel
theorem d_Mo_entry_120 : decode M_Mo_entry.2.1 120 = .ok (.iload 5, 2) := by decide +kernel
theorem d_Mo_entry_122 : decode M_Mo_entry.2.1 122 = .ok (.bipush 16, 2) := by decide +kernel
theorem d_Mo_entry_124 : decode M_Mo_entry.2.1 124 = .ok (.aload_n 0, 1) := by decide +kernel
theorem d_Mo_entry_125 : decode M_Mo_entry.2.1 125 = .ok (.iload_n 1, 1) := by decide +kernel
theorem d_Mo_entry_126 : decode M_Mo_entry.2.1 126 = .ok (.iconst 3, 1) := by decide +kernel
theorem d_Mo_entry_127 : decode M_Mo_entry.2.1 127 = .ok (.iload_n 2, 1) := by decide +kernel
theorem d_Mo_entry_128 : decode M_Mo_entry.2.1 128 = .ok (.imul, 1) := by decide +kernel
theorem d_Mo_entry_129 : decode M_Mo_entry.2.1 129 = .ok (.iload_n 3, 1) := by decide +kernel
theorem d_Mo_entry_130 : decode M_Mo_entry.2.1 130 = .ok (.iadd, 1) := by decide +kernel
theorem d_Mo_entry_131 : decode M_Mo_entry.2.1 131 = .ok (.iconst 1, 1) := by decide +kernel
theorem d_Mo_entry_132 : decode M_Mo_entry.2.1 132 = .ok (.invokevirtual 140, 3) := by decide +kernel
theorem d_Mo_entry_135 : decode M_Mo_entry.2.1 135 = .ok (.imul, 1) := by decide +kernel
theorem d_Mo_entry_136 : decode M_Mo_entry.2.1 136 = .ok (.iadd, 1) := by decide +kernel
theorem d_Mo_entry_137 : decode M_Mo_entry.2.1 137 = .ok (.ireturn, 1) := by decide +kernel
theorem d_Mo_messages_0 : decode M_Mo_messages.2.1 0 = .ok (.iload_n 1, 1) := by decide +kernel
theorem d_Mo_messages_1 : decode M_Mo_messages.2.1 1 = .ok (.ifCond .lt 9, 3) := by decide +kernel
theorem d_Mo_messages_4 : decode M_Mo_messages.2.1 4 = .ok (.iload_n 1, 1) := by decide +kernel
theorem d_Mo_messages_5 : decode M_Mo_messages.2.1 5 = .ok (.bipush 9, 2) := by decide +kernel
theorem d_Mo_messages_7 : decode M_Mo_messages.2.1 7 = .ok (.if_icmp .le 7, 3) := by decide +kernel
theorem d_Mo_messages_10 : decode M_Mo_messages.2.1 10 = .ok (.iconst (-1), 1) := by decide +kernel
theorem d_Mo_messages_11 : decode M_Mo_messages.2.1 11 = .ok (.goto 9, 3) := by decide +kernel
theorem d_Mo_messages_14 : decode M_Mo_messages.2.1 14 = .ok (.aload_n 0, 1) := by decide +kernel
theorem d_Mo_messages_15 : decode M_Mo_messages.2.1 15 = .ok (.getfield 56, 3) := by decide +kernel
theorem d_Mo_messages_18 : decode M_Mo_messages.2.1 18 = .ok (.iload_n 1, 1) := by decide +kernel
theorem d_Mo_messages_19 : decode M_Mo_messages.2.1 19 = .ok (.iaload, 1) := by decide +kernel
theorem d_Mo_messages_20 : decode M_Mo_messages.2.1 20 = .ok (.ireturn, 1) := by decide +kernel
theorem d_Mo_send_0 : decode M_Mo_send.2.1 0 = .ok (.aload_n 0, 1) := by decide +kernel
theorem d_Mo_send_1 : decode M_Mo_send.2.1 1 = .ok (.iload_n 1, 1) := by decide +kernel
theorem d_Mo_send_2 : decode M_Mo_send.2.1 2 = .ok (.iload_n 2, 1) := by decide +kernel
theorem d_Mo_send_3 : decode M_Mo_send.2.1 3 = .ok (.invokevirtual 164, 3) := by decide +kernel
theorem d_Mo_send_6 : decode M_Mo_send.2.1 6 = .ok (.ifCond .eq 7, 3) := by decide +kernel
theorem d_Mo_send_9 : decode M_Mo_send.2.1 9 = .ok (.iconst (-1), 1) := by decide +kernel
theorem d_Mo_send_10 : decode M_Mo_send.2.1 10 = .ok (.goto 13, 3) := by decide +kernel
theorem d_Mo_send_13 : decode M_Mo_send.2.1 13 = .ok (.aload_n 0, 1) := by decide +kernel
theorem d_Mo_send_14 : decode M_Mo_send.2.1 14 = .ok (.iload_n 1, 1) := by decide +kernel
theorem d_Mo_send_15 : decode M_Mo_send.2.1 15 = .ok (.iconst 3, 1) := by decide +kernel
theorem d_Mo_send_16 : decode M_Mo_send.2.1 16 = .ok (.iload_n 1, 1) := by decide +kernel
theorem d_Mo_send_17 : decode M_Mo_send.2.1 17 = .ok (.imul, 1) := by decide +kernel
theorem d_Mo_send_18 : decode M_Mo_send.2.1 18 = .ok (.iload_n 2, 1) := by decide +kernel
theorem d_Mo_send_19 : decode M_Mo_send.2.1 19 = .ok (.iadd, 1) := by decide +kernel
theorem d_Mo_send_20 : decode M_Mo_send.2.1 20 = .ok (.invokevirtual 167, 3) := by decide +kernel
theorem d_Mo_send_23 : decode M_Mo_send.2.1 23 = .ok (.ireturn, 1) := by decide +kernel
theorem d_Mo_refused_0 : decode M_Mo_refused.2.1 0 = .ok (.iload_n 1, 1) := by decide +kernel
theorem d_Mo_refused_1 : decode M_Mo_refused.2.1 1 = .ok (.invokestatic 99, 3) := by decide +kernel
theorem d_Mo_refused_4 : decode M_Mo_refused.2.1 4 = .ok (.ifCond .eq 10, 3) := by decide +kernel
theorem d_Mo_refused_7 : decode M_Mo_refused.2.1 7 = .ok (.iload_n 2, 1) := by decide +kernel
theorem d_Mo_refused_8 : decode M_Mo_refused.2.1 8 = .ok (.invokestatic 115, 3) := by decide +kernel
theorem d_Mo_refused_11 : decode M_Mo_refused.2.1 11 = .ok (.ifCond .ne 5, 3) := by decide +kernel
theorem d_Mo_refused_14 : decode M_Mo_refused.2.1 14 = .ok (.iconst 1, 1) := by decide +kernel
theorem d_Mo_refused_15 : decode M_Mo_refused.2.1 15 = .ok (.ireturn, 1) := by decide +kernel
theorem d_Mo_refused_16 : decode M_Mo_refused.2.1 16 = .ok (.iconst 0, 1) := by decide +kernel
theorem d_Mo_refused_17 : decode M_Mo_refused.2.1 17 = .ok (.istore_n 3, 1) := by decide +kernel
theorem d_Mo_refused_18 : decode M_Mo_refused.2.1 18 = .ok (.iconst 0, 1) := by decide +kernel
theorem d_Mo_refused_19 : decode M_Mo_refused.2.1 19 = .ok (.istore 4, 2) := by decide +kernel
theorem d_Mo_refused_21 : decode M_Mo_refused.2.1 21 = .ok (.iload 4, 2) := by decide +kernel
theorem d_Mo_refused_23 : decode M_Mo_refused.2.1 23 = .ok (.bipush 18, 2) := by decide +kernel
theorem d_Mo_refused_25 : decode M_Mo_refused.2.1 25 = .ok (.if_icmp .ge 26, 3) := by decide +kernel
theorem d_Mo_refused_28 : decode M_Mo_refused.2.1 28 = .ok (.aload_n 0, 1) := by decide +kernel
theorem d_Mo_refused_29 : decode M_Mo_refused.2.1 29 = .ok (.iload 4, 2) := by decide +kernel
theorem d_Mo_refused_31 : decode M_Mo_refused.2.1 31 = .ok (.invokevirtual 161, 3) := by decide +kernel
theorem d_Mo_refused_34 : decode M_Mo_refused.2.1 34 = .ok (.ifCond .eq 9, 3) := by decide +kernel
theorem d_Mo_refused_37 : decode M_Mo_refused.2.1 37 = .ok (.iload_n 3, 1) := by decide +kernel
theorem d_Mo_refused_38 : decode M_Mo_refused.2.1 38 = .ok (.iconst 1, 1) := by decide +kernel
theorem d_Mo_refused_39 : decode M_Mo_refused.2.1 39 = .ok (.iadd, 1) := by decide +kernel
theorem d_Mo_refused_40 : decode M_Mo_refused.2.1 40 = .ok (.goto 4, 3) := by decide +kernel
theorem d_Mo_refused_43 : decode M_Mo_refused.2.1 43 = .ok (.iload_n 3, 1) := by decide +kernel
theorem d_Mo_refused_44 : decode M_Mo_refused.2.1 44 = .ok (.istore_n 3, 1) := by decide +kernel
theorem d_Mo_refused_45 : decode M_Mo_refused.2.1 45 = .ok (.iinc 4 1, 3) := by decide +kernel
theorem d_Mo_refused_48 : decode M_Mo_refused.2.1 48 = .ok (.goto (-27), 3) := by decide +kernel
theorem d_Mo_refused_51 : decode M_Mo_refused.2.1 51 = .ok (.aload_n 0, 1) := by decide +kernel
theorem d_Mo_refused_52 : decode M_Mo_refused.2.1 52 = .ok (.iconst 3, 1) := by decide +kernel
theorem d_Mo_refused_53 : decode M_Mo_refused.2.1 53 = .ok (.iload_n 1, 1) := by decide +kernel
theorem d_Mo_refused_54 : decode M_Mo_refused.2.1 54 = .ok (.imul, 1) := by decide +kernel
theorem d_Mo_refused_55 : decode M_Mo_refused.2.1 55 = .ok (.iload_n 2, 1) := by decide +kernel
theorem d_Mo_refused_56 : decode M_Mo_refused.2.1 56 = .ok (.iadd, 1) := by decide +kernel
theorem d_Mo_refused_57 : decode M_Mo_refused.2.1 57 = .ok (.invokevirtual 161, 3) := by decide +kernel
theorem d_Mo_refused_60 : decode M_Mo_refused.2.1 60 = .ok (.ifCond .ne 12, 3) := by decide +kernel
theorem d_Mo_refused_63 : decode M_Mo_refused.2.1 63 = .ok (.iload_n 3, 1) := by decide +kernel
theorem d_Mo_refused_64 : decode M_Mo_refused.2.1 64 = .ok (.iconst 5, 1) := by decide +kernel
theorem d_Mo_refused_65 : decode M_Mo_refused.2.1 65 = .ok (.if_icmp .lt 7, 3) := by decide +kernel
theorem d_Mo_refused_68 : decode M_Mo_refused.2.1 68 = .ok (.iconst 1, 1) := by decide +kernel
theorem d_Mo_refused_69 : decode M_Mo_refused.2.1 69 = .ok (.goto 4, 3) := by decide +kernel
theorem d_Mo_refused_72 : decode M_Mo_refused.2.1 72 = .ok (.iconst 0, 1) := by decide +kernel
theorem d_Mo_refused_73 : decode M_Mo_refused.2.1 73 = .ok (.ireturn, 1) := by decide +kernel
theorem d_Mo_runs_0 : decode M_Mo_runs.2.1 0 = .ok (.iconst 0, 1) := by decide +kernel
theorem d_Mo_runs_1 : decode M_Mo_runs.2.1 1 = .ok (.istore_n 2, 1) := by decide +kernel
theorem d_Mo_runs_2 : decode M_Mo_runs.2.1 2 = .ok (.iconst 0, 1) := by decide +kernel
theorem d_Mo_runs_3 : decode M_Mo_runs.2.1 3 = .ok (.istore_n 3, 1) := by decide +kernel
theorem d_Mo_runs_4 : decode M_Mo_runs.2.1 4 = .ok (.iload_n 3, 1) := by decide +kernel
theorem d_Mo_runs_5 : decode M_Mo_runs.2.1 5 = .ok (.bipush 6, 2) := by decide +kernel
theorem d_Mo_runs_7 : decode M_Mo_runs.2.1 7 = .ok (.if_icmp .ge 37, 3) := by decide +kernel
theorem d_Mo_runs_10 : decode M_Mo_runs.2.1 10 = .ok (.iload_n 2, 1) := by decide +kernel
theorem d_Mo_runs_11 : decode M_Mo_runs.2.1 11 = .ok (.ifCond .ne 21, 3) := by decide +kernel
theorem d_Mo_runs_14 : decode M_Mo_runs.2.1 14 = .ok (.aload_n 0, 1) := by decide +kernel
theorem d_Mo_runs_15 : decode M_Mo_runs.2.1 15 = .ok (.getfield 47, 3) := by decide +kernel
theorem d_Mo_runs_18 : decode M_Mo_runs.2.1 18 = .ok (.bipush 18, 2) := by decide +kernel
theorem d_Mo_runs_20 : decode M_Mo_runs.2.1 20 = .ok (.iload_n 3, 1) := by decide +kernel
theorem d_Mo_runs_21 : decode M_Mo_runs.2.1 21 = .ok (.imul, 1) := by decide +kernel
theorem d_Mo_runs_22 : decode M_Mo_runs.2.1 22 = .ok (.iload_n 1, 1) := by decide +kernel
theorem d_Mo_runs_23 : decode M_Mo_runs.2.1 23 = .ok (.iadd, 1) := by decide +kernel
theorem d_Mo_runs_24 : decode M_Mo_runs.2.1 24 = .ok (.iaload, 1) := by decide +kernel
theorem d_Mo_runs_25 : decode M_Mo_runs.2.1 25 = .ok (.aload_n 0, 1) := by decide +kernel
theorem d_Mo_runs_26 : decode M_Mo_runs.2.1 26 = .ok (.getfield 112, 3) := by decide +kernel
theorem d_Mo_runs_29 : decode M_Mo_runs.2.1 29 = .ok (.if_icmp .le 7, 3) := by decide +kernel
theorem d_Mo_runs_32 : decode M_Mo_runs.2.1 32 = .ok (.iconst 1, 1) := by decide +kernel
theorem d_Mo_runs_33 : decode M_Mo_runs.2.1 33 = .ok (.goto 4, 3) := by decide +kernel
theorem d_Mo_runs_36 : decode M_Mo_runs.2.1 36 = .ok (.iconst 0, 1) := by decide +kernel
theorem d_Mo_runs_37 : decode M_Mo_runs.2.1 37 = .ok (.istore_n 2, 1) := by decide +kernel
theorem d_Mo_runs_38 : decode M_Mo_runs.2.1 38 = .ok (.iinc 3 1, 3) := by decide +kernel
theorem d_Mo_runs_41 : decode M_Mo_runs.2.1 41 = .ok (.goto (-37), 3) := by decide +kernel
theorem d_Mo_runs_44 : decode M_Mo_runs.2.1 44 = .ok (.iload_n 2, 1) := by decide +kernel
theorem d_Mo_runs_45 : decode M_Mo_runs.2.1 45 = .ok (.ireturn, 1) := by decide +kernel
theorem d_Mo_packet_0 : decode M_Mo_packet.2.1 0 = .ok (.aload_n 0, 1) := by decide +kernel
theorem d_Mo_packet_1 : decode M_Mo_packet.2.1 1 = .ok (.iconst 0, 1) := by decide +kernel
theorem d_Mo_packet_2 : decode M_Mo_packet.2.1 2 = .ok (.putfield 170, 3) := by decide +kernel
theorem d_Mo_packet_5 : decode M_Mo_packet.2.1 5 = .ok (.aload_n 0, 1) := by decide +kernel
theorem d_Mo_packet_6 : decode M_Mo_packet.2.1 6 = .ok (.iconst 0, 1) := by decide +kernel
theorem d_Mo_packet_7 : decode M_Mo_packet.2.1 7 = .ok (.putfield 173, 3) := by decide +kernel
theorem d_Mo_packet_10 : decode M_Mo_packet.2.1 10 = .ok (.aload_n 0, 1) := by decide +kernel
theorem d_Mo_packet_11 : decode M_Mo_packet.2.1 11 = .ok (.iconst 0, 1) := by decide +kernel
theorem d_Mo_packet_12 : decode M_Mo_packet.2.1 12 = .ok (.putfield 176, 3) := by decide +kernel
theorem d_Mo_packet_15 : decode M_Mo_packet.2.1 15 = .ok (.aload_n 0, 1) := by decide +kernel
theorem d_Mo_packet_16 : decode M_Mo_packet.2.1 16 = .ok (.iconst 0, 1) := by decide +kernel
theorem d_Mo_packet_17 : decode M_Mo_packet.2.1 17 = .ok (.putfield 179, 3) := by decide +kernel
theorem d_Mo_packet_20 : decode M_Mo_packet.2.1 20 = .ok (.iconst 0, 1) := by decide +kernel
theorem d_Mo_packet_21 : decode M_Mo_packet.2.1 21 = .ok (.istore_n 3, 1) := by decide +kernel
theorem d_Mo_packet_22 : decode M_Mo_packet.2.1 22 = .ok (.iload_n 3, 1) := by decide +kernel
theorem d_Mo_packet_23 : decode M_Mo_packet.2.1 23 = .ok (.bipush 6, 2) := by decide +kernel
theorem d_Mo_packet_25 : decode M_Mo_packet.2.1 25 = .ok (.if_icmp .ge 30, 3) := by decide +kernel
theorem d_Mo_packet_28 : decode M_Mo_packet.2.1 28 = .ok (.aload_n 0, 1) := by decide +kernel
theorem d_Mo_packet_29 : decode M_Mo_packet.2.1 29 = .ok (.getfield 62, 3) := by decide +kernel
theorem d_Mo_packet_32 : decode M_Mo_packet.2.1 32 = .ok (.iload_n 3, 1) := by decide +kernel
theorem d_Mo_packet_33 : decode M_Mo_packet.2.1 33 = .ok (.iconst 0, 1) := by decide +kernel
theorem d_Mo_packet_34 : decode M_Mo_packet.2.1 34 = .ok (.bastore, 1) := by decide +kernel
theorem d_Mo_packet_35 : decode M_Mo_packet.2.1 35 = .ok (.aload_n 0, 1) := by decide +kernel
theorem d_Mo_packet_36 : decode M_Mo_packet.2.1 36 = .ok (.getfield 65, 3) := by decide +kernel
theorem d_Mo_packet_39 : decode M_Mo_packet.2.1 39 = .ok (.iload_n 3, 1) := by decide +kernel
theorem d_Mo_packet_40 : decode M_Mo_packet.2.1 40 = .ok (.iconst 0, 1) := by decide +kernel
theorem d_Mo_packet_41 : decode M_Mo_packet.2.1 41 = .ok (.bastore, 1) := by decide +kernel
theorem d_Mo_packet_42 : decode M_Mo_packet.2.1 42 = .ok (.aload_n 0, 1) := by decide +kernel
theorem d_Mo_packet_43 : decode M_Mo_packet.2.1 43 = .ok (.getfield 68, 3) := by decide +kernel
theorem d_Mo_packet_46 : decode M_Mo_packet.2.1 46 = .ok (.iload_n 3, 1) := by decide +kernel
theorem d_Mo_packet_47 : decode M_Mo_packet.2.1 47 = .ok (.iconst (-1), 1) := by decide +kernel
theorem d_Mo_packet_48 : decode M_Mo_packet.2.1 48 = .ok (.iastore, 1) := by decide +kernel
theorem d_Mo_packet_49 : decode M_Mo_packet.2.1 49 = .ok (.iinc 3 1, 3) := by decide +kernel
theorem d_Mo_packet_52 : decode M_Mo_packet.2.1 52 = .ok (.goto (-30), 3) := by decide +kernel
theorem d_Mo_packet_55 : decode M_Mo_packet.2.1 55 = .ok (.aload_n 0, 1) := by decide +kernel
theorem d_Mo_packet_56 : decode M_Mo_packet.2.1 56 = .ok (.getfield 47, 3) := by decide +kernel
theorem d_Mo_packet_59 : decode M_Mo_packet.2.1 59 = .ok (.bipush 18, 2) := by decide +kernel
theorem d_Mo_packet_61 : decode M_Mo_packet.2.1 61 = .ok (.iload_n 1, 1) := by decide +kernel
theorem d_Mo_packet_62 : decode M_Mo_packet.2.1 62 = .ok (.imul, 1) := by decide +kernel
theorem d_Mo_packet_63 : decode M_Mo_packet.2.1 63 = .ok (.iload_n 2, 1) := by decide +kernel
theorem d_Mo_packet_64 : decode M_Mo_packet.2.1 64 = .ok (.iadd, 1) := by decide +kernel
theorem d_Mo_packet_65 : decode M_Mo_packet.2.1 65 = .ok (.aload_n 0, 1) := by decide +kernel
theorem d_Mo_packet_66 : decode M_Mo_packet.2.1 66 = .ok (.getfield 112, 3) := by decide +kernel
theorem d_Mo_packet_69 : decode M_Mo_packet.2.1 69 = .ok (.bipush 8, 2) := by decide +kernel
theorem d_Mo_packet_71 : decode M_Mo_packet.2.1 71 = .ok (.iadd, 1) := by decide +kernel
theorem d_Mo_packet_72 : decode M_Mo_packet.2.1 72 = .ok (.iastore, 1) := by decide +kernel
theorem d_Mo_packet_73 : decode M_Mo_packet.2.1 73 = .ok (.aload_n 0, 1) := by decide +kernel
theorem d_Mo_packet_74 : decode M_Mo_packet.2.1 74 = .ok (.iload_n 1, 1) := by decide +kernel
theorem d_Mo_packet_75 : decode M_Mo_packet.2.1 75 = .ok (.iload_n 2, 1) := by decide +kernel
theorem d_Mo_packet_76 : decode M_Mo_packet.2.1 76 = .ok (.iconst 1, 1) := by decide +kernel
theorem d_Mo_packet_77 : decode M_Mo_packet.2.1 77 = .ok (.invokevirtual 140, 3) := by decide +kernel
theorem d_Mo_packet_80 : decode M_Mo_packet.2.1 80 = .ok (.istore_n 3, 1) := by decide +kernel
theorem d_Mo_packet_81 : decode M_Mo_packet.2.1 81 = .ok (.iconst 0, 1) := by decide +kernel
theorem d_Mo_packet_82 : decode M_Mo_packet.2.1 82 = .ok (.istore 4, 2) := by decide +kernel
theorem d_Mo_packet_84 : decode M_Mo_packet.2.1 84 = .ok (.iload 4, 2) := by decide +kernel
theorem d_Mo_packet_86 : decode M_Mo_packet.2.1 86 = .ok (.bipush 6, 2) := by decide +kernel
theorem d_Mo_packet_88 : decode M_Mo_packet.2.1 88 = .ok (.if_icmp .ge 66, 3) := by decide +kernel
theorem d_Mo_packet_91 : decode M_Mo_packet.2.1 91 = .ok (.aload_n 0, 1) := by decide +kernel
theorem d_Mo_packet_92 : decode M_Mo_packet.2.1 92 = .ok (.getfield 41, 3) := by decide +kernel
theorem d_Mo_packet_95 : decode M_Mo_packet.2.1 95 = .ok (.bipush 18, 2) := by decide +kernel
theorem d_Mo_packet_97 : decode M_Mo_packet.2.1 97 = .ok (.iload 4, 2) := by decide +kernel
theorem d_Mo_packet_99 : decode M_Mo_packet.2.1 99 = .ok (.imul, 1) := by decide +kernel
theorem d_Mo_packet_100 : decode M_Mo_packet.2.1 100 = .ok (.iload_n 2, 1) := by decide +kernel
theorem d_Mo_packet_101 : decode M_Mo_packet.2.1 101 = .ok (.iadd, 1) := by decide +kernel
theorem d_Mo_packet_102 : decode M_Mo_packet.2.1 102 = .ok (.iaload, 1) := by decide +kernel
theorem d_Mo_packet_103 : decode M_Mo_packet.2.1 103 = .ok (.ifCond .ge 13, 3) := by decide +kernel
theorem d_Mo_packet_106 : decode M_Mo_packet.2.1 106 = .ok (.iload 4, 2) := by decide +kernel
theorem d_Mo_packet_108 : decode M_Mo_packet.2.1 108 = .ok (.iload_n 1, 1) := by decide +kernel
theorem d_Mo_packet_109 : decode M_Mo_packet.2.1 109 = .ok (.if_icmp .ne 39, 3) := by decide +kernel
theorem d_Mo_packet_112 : decode M_Mo_packet.2.1 112 = .ok (.iload_n 3, 1) := by decide +kernel
theorem d_Mo_packet_113 : decode M_Mo_packet.2.1 113 = .ok (.ifCond .le 35, 3) := by decide +kernel
theorem d_Mo_packet_116 : decode M_Mo_packet.2.1 116 = .ok (.aload_n 0, 1) := by decide +kernel
theorem d_Mo_packet_117 : decode M_Mo_packet.2.1 117 = .ok (.getfield 50, 3) := by decide +kernel
theorem d_Mo_packet_120 : decode M_Mo_packet.2.1 120 = .ok (.bipush 18, 2) := by decide +kernel
theorem d_Mo_packet_122 : decode M_Mo_packet.2.1 122 = .ok (.iload 4, 2) := by decide +kernel
theorem d_Mo_packet_124 : decode M_Mo_packet.2.1 124 = .ok (.imul, 1) := by decide +kernel
theorem d_Mo_packet_125 : decode M_Mo_packet.2.1 125 = .ok (.iload_n 2, 1) := by decide +kernel
theorem d_Mo_packet_126 : decode M_Mo_packet.2.1 126 = .ok (.iadd, 1) := by decide +kernel
theorem d_Mo_packet_127 : decode M_Mo_packet.2.1 127 = .ok (.iconst 1, 1) := by decide +kernel
theorem d_Mo_packet_128 : decode M_Mo_packet.2.1 128 = .ok (.bastore, 1) := by decide +kernel
theorem d_Mo_packet_129 : decode M_Mo_packet.2.1 129 = .ok (.aload_n 0, 1) := by decide +kernel
theorem d_Mo_packet_130 : decode M_Mo_packet.2.1 130 = .ok (.getfield 47, 3) := by decide +kernel
theorem d_Mo_packet_133 : decode M_Mo_packet.2.1 133 = .ok (.bipush 18, 2) := by decide +kernel
theorem d_Mo_packet_135 : decode M_Mo_packet.2.1 135 = .ok (.iload 4, 2) := by decide +kernel
theorem d_Mo_packet_137 : decode M_Mo_packet.2.1 137 = .ok (.imul, 1) := by decide +kernel
theorem d_Mo_packet_138 : decode M_Mo_packet.2.1 138 = .ok (.iload_n 2, 1) := by decide +kernel
theorem d_Mo_packet_139 : decode M_Mo_packet.2.1 139 = .ok (.iadd, 1) := by decide +kernel
theorem d_Mo_packet_140 : decode M_Mo_packet.2.1 140 = .ok (.aload_n 0, 1) := by decide +kernel
theorem d_Mo_packet_141 : decode M_Mo_packet.2.1 141 = .ok (.getfield 112, 3) := by decide +kernel
theorem d_Mo_packet_144 : decode M_Mo_packet.2.1 144 = .ok (.bipush 8, 2) := by decide +kernel
theorem d_Mo_packet_146 : decode M_Mo_packet.2.1 146 = .ok (.iadd, 1) := by decide +kernel
theorem d_Mo_packet_147 : decode M_Mo_packet.2.1 147 = .ok (.iastore, 1) := by decide +kernel
theorem d_Mo_packet_148 : decode M_Mo_packet.2.1 148 = .ok (.iinc 4 1, 3) := by decide +kernel
theorem d_Mo_packet_151 : decode M_Mo_packet.2.1 151 = .ok (.goto (-67), 3) := by decide +kernel
theorem d_Mo_packet_154 : decode M_Mo_packet.2.1 154 = .ok (.aload_n 0, 1) := by decide +kernel
theorem d_Mo_packet_155 : decode M_Mo_packet.2.1 155 = .ok (.iload_n 1, 1) := by decide +kernel
theorem d_Mo_packet_156 : decode M_Mo_packet.2.1 156 = .ok (.iload_n 2, 1) := by decide +kernel
theorem d_Mo_packet_157 : decode M_Mo_packet.2.1 157 = .ok (.invokevirtual 182, 3) := by decide +kernel
theorem d_Mo_packet_160 : decode M_Mo_packet.2.1 160 = .ok (.istore 4, 2) := by decide +kernel
theorem d_Mo_packet_162 : decode M_Mo_packet.2.1 162 = .ok (.aload_n 0, 1) := by decide +kernel
theorem d_Mo_packet_163 : decode M_Mo_packet.2.1 163 = .ok (.getfield 62, 3) := by decide +kernel
theorem d_Mo_packet_166 : decode M_Mo_packet.2.1 166 = .ok (.iload_n 1, 1) := by decide +kernel
theorem d_Mo_packet_167 : decode M_Mo_packet.2.1 167 = .ok (.iload_n 3, 1) := by decide +kernel
theorem d_Mo_packet_168 : decode M_Mo_packet.2.1 168 = .ok (.ifCond .le 7, 3) := by decide +kernel
theorem d_Mo_packet_171 : decode M_Mo_packet.2.1 171 = .ok (.iconst 1, 1) := by decide +kernel
theorem d_Mo_packet_172 : decode M_Mo_packet.2.1 172 = .ok (.goto 4, 3) := by decide +kernel
theorem d_Mo_packet_175 : decode M_Mo_packet.2.1 175 = .ok (.iconst 0, 1) := by decide +kernel
theorem d_Mo_packet_176 : decode M_Mo_packet.2.1 176 = .ok (.bastore, 1) := by decide +kernel
theorem d_Mo_packet_177 : decode M_Mo_packet.2.1 177 = .ok (.aload_n 0, 1) := by decide +kernel
theorem d_Mo_packet_178 : decode M_Mo_packet.2.1 178 = .ok (.getfield 62, 3) := by decide +kernel
theorem d_Mo_packet_181 : decode M_Mo_packet.2.1 181 = .ok (.aload_n 0, 1) := by decide +kernel
theorem d_Mo_packet_182 : decode M_Mo_packet.2.1 182 = .ok (.getfield 103, 3) := by decide +kernel
theorem d_Mo_packet_185 : decode M_Mo_packet.2.1 185 = .ok (.aload_n 0, 1) := by decide +kernel
theorem d_Mo_packet_186 : decode M_Mo_packet.2.1 186 = .ok (.getfield 62, 3) := by decide +kernel
theorem d_Mo_packet_189 : decode M_Mo_packet.2.1 189 = .ok (.aload_n 0, 1) := by decide +kernel
theorem d_Mo_packet_190 : decode M_Mo_packet.2.1 190 = .ok (.getfield 103, 3) := by decide +kernel
theorem d_Mo_packet_193 : decode M_Mo_packet.2.1 193 = .ok (.baload, 1) := by decide +kernel
theorem d_Mo_packet_194 : decode M_Mo_packet.2.1 194 = .ok (.ifCond .ne 25, 3) := by decide +kernel
theorem d_Mo_packet_197 : decode M_Mo_packet.2.1 197 = .ok (.iload 4, 2) := by decide +kernel
theorem d_Mo_packet_199 : decode M_Mo_packet.2.1 199 = .ok (.ifCond .eq 24, 3) := by decide +kernel
theorem d_Mo_packet_202 : decode M_Mo_packet.2.1 202 = .ok (.aload_n 0, 1) := by decide +kernel
theorem d_Mo_packet_203 : decode M_Mo_packet.2.1 203 = .ok (.getfield 50, 3) := by decide +kernel
theorem d_Mo_packet_206 : decode M_Mo_packet.2.1 206 = .ok (.bipush 18, 2) := by decide +kernel
theorem d_Mo_packet_208 : decode M_Mo_packet.2.1 208 = .ok (.aload_n 0, 1) := by decide +kernel
theorem d_Mo_packet_209 : decode M_Mo_packet.2.1 209 = .ok (.getfield 103, 3) := by decide +kernel
theorem d_Mo_packet_212 : decode M_Mo_packet.2.1 212 = .ok (.imul, 1) := by decide +kernel
theorem d_Mo_packet_213 : decode M_Mo_packet.2.1 213 = .ok (.iload_n 2, 1) := by decide +kernel
theorem d_Mo_packet_214 : decode M_Mo_packet.2.1 214 = .ok (.iadd, 1) := by decide +kernel
theorem d_Mo_packet_215 : decode M_Mo_packet.2.1 215 = .ok (.baload, 1) := by decide +kernel
theorem d_Mo_packet_216 : decode M_Mo_packet.2.1 216 = .ok (.ifCond .ne 7, 3) := by decide +kernel
theorem d_Mo_packet_219 : decode M_Mo_packet.2.1 219 = .ok (.iconst 1, 1) := by decide +kernel
theorem d_Mo_packet_220 : decode M_Mo_packet.2.1 220 = .ok (.goto 4, 3) := by decide +kernel
theorem d_Mo_packet_223 : decode M_Mo_packet.2.1 223 = .ok (.iconst 0, 1) := by decide +kernel
theorem d_Mo_packet_224 : decode M_Mo_packet.2.1 224 = .ok (.bastore, 1) := by decide +kernel
theorem d_Mo_packet_225 : decode M_Mo_packet.2.1 225 = .ok (.iconst 0, 1) := by decide +kernel
theorem d_Mo_packet_226 : decode M_Mo_packet.2.1 226 = .ok (.istore 5, 2) := by decide +kernel
theorem d_Mo_packet_228 : decode M_Mo_packet.2.1 228 = .ok (.iload 5, 2) := by decide +kernel
theorem d_Mo_packet_230 : decode M_Mo_packet.2.1 230 = .ok (.bipush 6, 2) := by decide +kernel
theorem d_Mo_packet_232 : decode M_Mo_packet.2.1 232 = .ok (.if_icmp .ge 53, 3) := by decide +kernel
theorem d_Mo_packet_235 : decode M_Mo_packet.2.1 235 = .ok (.iconst 0, 1) := by decide +kernel
theorem d_Mo_packet_236 : decode M_Mo_packet.2.1 236 = .ok (.istore 6, 2) := by decide +kernel
theorem d_Mo_packet_238 : decode M_Mo_packet.2.1 238 = .ok (.iload 6, 2) := by decide +kernel
theorem d_Mo_packet_240 : decode M_Mo_packet.2.1 240 = .ok (.bipush 6, 2) := by decide +kernel
theorem d_Mo_packet_242 : decode M_Mo_packet.2.1 242 = .ok (.if_icmp .ge 37, 3) := by decide +kernel
theorem d_Mo_packet_245 : decode M_Mo_packet.2.1 245 = .ok (.aload_n 0, 1) := by decide +kernel
theorem d_Mo_packet_246 : decode M_Mo_packet.2.1 246 = .ok (.getfield 62, 3) := by decide +kernel
theorem d_Mo_packet_249 : decode M_Mo_packet.2.1 249 = .ok (.iload 6, 2) := by decide +kernel
theorem d_Mo_packet_251 : decode M_Mo_packet.2.1 251 = .ok (.baload, 1) := by decide +kernel
theorem d_Mo_packet_252 : decode M_Mo_packet.2.1 252 = .ok (.ifCond .eq 21, 3) := by decide +kernel
theorem d_Mo_packet_255 : decode M_Mo_packet.2.1 255 = .ok (.aload_n 0, 1) := by decide +kernel
theorem d_Mo_packet_256 : decode M_Mo_packet.2.1 256 = .ok (.getfield 65, 3) := by decide +kernel
theorem d_Mo_packet_259 : decode M_Mo_packet.2.1 259 = .ok (.iload 6, 2) := by decide +kernel
theorem d_Mo_packet_261 : decode M_Mo_packet.2.1 261 = .ok (.baload, 1) := by decide +kernel
theorem d_Mo_packet_262 : decode M_Mo_packet.2.1 262 = .ok (.ifCond .ne 11, 3) := by decide +kernel
theorem d_Mo_packet_265 : decode M_Mo_packet.2.1 265 = .ok (.aload_n 0, 1) := by decide +kernel
theorem d_Mo_packet_266 : decode M_Mo_packet.2.1 266 = .ok (.iload 6, 2) := by decide +kernel
theorem d_Mo_packet_268 : decode M_Mo_packet.2.1 268 = .ok (.iload_n 1, 1) := by decide +kernel
theorem d_Mo_packet_269 : decode M_Mo_packet.2.1 269 = .ok (.iload_n 2, 1) := by decide +kernel
theorem d_Mo_packet_270 : decode M_Mo_packet.2.1 270 = .ok (.invokevirtual 185, 3) := by decide +kernel
theorem d_Mo_packet_273 : decode M_Mo_packet.2.1 273 = .ok (.iinc 6 1, 3) := by decide +kernel
theorem d_Mo_packet_276 : decode M_Mo_packet.2.1 276 = .ok (.goto (-38), 3) := by decide +kernel
theorem d_Mo_packet_279 : decode M_Mo_packet.2.1 279 = .ok (.iinc 5 1, 3) := by decide +kernel
theorem d_Mo_packet_282 : decode M_Mo_packet.2.1 282 = .ok (.goto (-54), 3) := by decide +kernel
theorem d_Mo_packet_285 : decode M_Mo_packet.2.1 285 = .ok (.aload_n 0, 1) := by decide +kernel
theorem d_Mo_packet_286 : decode M_Mo_packet.2.1 286 = .ok (.iload_n 1, 1) := by decide +kernel
theorem d_Mo_packet_287 : decode M_Mo_packet.2.1 287 = .ok (.iload_n 2, 1) := by decide +kernel
theorem d_Mo_packet_288 : decode M_Mo_packet.2.1 288 = .ok (.invokevirtual 188, 3) := by decide +kernel
theorem d_Mo_packet_291 : decode M_Mo_packet.2.1 291 = .ok (.ireturn, 1) := by decide +kernel
theorem d_Mo_register_0 : decode M_Mo_register.2.1 0 = .ok (.iload_n 1, 1) := by decide +kernel
theorem d_Mo_register_1 : decode M_Mo_register.2.1 1 = .ok (.aload_n 0, 1) := by decide +kernel
theorem d_Mo_register_2 : decode M_Mo_register.2.1 2 = .ok (.getfield 103, 3) := by decide +kernel
theorem d_Mo_register_5 : decode M_Mo_register.2.1 5 = .ok (.if_icmp .eq 36, 3) := by decide +kernel
theorem d_Mo_register_8 : decode M_Mo_register.2.1 8 = .ok (.aload_n 0, 1) := by decide +kernel
theorem d_Mo_register_9 : decode M_Mo_register.2.1 9 = .ok (.getfield 13, 3) := by decide +kernel
theorem d_Mo_register_12 : decode M_Mo_register.2.1 12 = .ok (.bipush 6, 2) := by decide +kernel
theorem d_Mo_register_14 : decode M_Mo_register.2.1 14 = .ok (.iload_n 1, 1) := by decide +kernel
theorem d_Mo_register_15 : decode M_Mo_register.2.1 15 = .ok (.imul, 1) := by decide +kernel
theorem d_Mo_register_16 : decode M_Mo_register.2.1 16 = .ok (.aload_n 0, 1) := by decide +kernel
theorem d_Mo_register_17 : decode M_Mo_register.2.1 17 = .ok (.getfield 103, 3) := by decide +kernel
theorem d_Mo_register_20 : decode M_Mo_register.2.1 20 = .ok (.iadd, 1) := by decide +kernel
theorem d_Mo_register_21 : decode M_Mo_register.2.1 21 = .ok (.iaload, 1) := by decide +kernel
theorem d_Mo_register_22 : decode M_Mo_register.2.1 22 = .ok (.sipush 1000, 3) := by decide +kernel
theorem d_Mo_register_25 : decode M_Mo_register.2.1 25 = .ok (.if_icmp .ge 16, 3) := by decide +kernel
theorem d_Mo_register_28 : decode M_Mo_register.2.1 28 = .ok (.aload_n 0, 1) := by decide +kernel
theorem d_Mo_register_29 : decode M_Mo_register.2.1 29 = .ok (.getfield 53, 3) := by decide +kernel
theorem d_Mo_register_32 : decode M_Mo_register.2.1 32 = .ok (.iload_n 2, 1) := by decide +kernel
theorem d_Mo_register_33 : decode M_Mo_register.2.1 33 = .ok (.iaload, 1) := by decide +kernel
theorem d_Mo_register_34 : decode M_Mo_register.2.1 34 = .ok (.aload_n 0, 1) := by decide +kernel
theorem d_Mo_register_35 : decode M_Mo_register.2.1 35 = .ok (.getfield 112, 3) := by decide +kernel
theorem d_Mo_register_38 : decode M_Mo_register.2.1 38 = .ok (.if_icmp .le 5, 3) := by decide +kernel
theorem d_Mo_register_41 : decode M_Mo_register.2.1 41 = .ok (.iconst 0, 1) := by decide +kernel
theorem d_Mo_register_42 : decode M_Mo_register.2.1 42 = .ok (.ireturn, 1) := by decide +kernel
theorem d_Mo_register_43 : decode M_Mo_register.2.1 43 = .ok (.aload_n 0, 1) := by decide +kernel
theorem d_Mo_register_44 : decode M_Mo_register.2.1 44 = .ok (.getfield 56, 3) := by decide +kernel
theorem d_Mo_register_47 : decode M_Mo_register.2.1 47 = .ok (.bipush 6, 2) := by decide +kernel
theorem d_Mo_register_49 : decode M_Mo_register.2.1 49 = .ok (.aload_n 0, 1) := by decide +kernel
theorem d_Mo_register_50 : decode M_Mo_register.2.1 50 = .ok (.getfield 56, 3) := by decide +kernel
theorem d_Mo_register_53 : decode M_Mo_register.2.1 53 = .ok (.bipush 6, 2) := by decide +kernel
theorem d_Mo_register_55 : decode M_Mo_register.2.1 55 = .ok (.iaload, 1) := by decide +kernel
theorem d_Mo_register_56 : decode M_Mo_register.2.1 56 = .ok (.iconst 1, 1) := by decide +kernel
theorem d_Mo_register_57 : decode M_Mo_register.2.1 57 = .ok (.iadd, 1) := by decide +kernel
theorem d_Mo_register_58 : decode M_Mo_register.2.1 58 = .ok (.iastore, 1) := by decide +kernel
theorem d_Mo_register_59 : decode M_Mo_register.2.1 59 = .ok (.aload_n 0, 1) := by decide +kernel
theorem d_Mo_register_60 : decode M_Mo_register.2.1 60 = .ok (.getfield 47, 3) := by decide +kernel
theorem d_Mo_register_63 : decode M_Mo_register.2.1 63 = .ok (.bipush 18, 2) := by decide +kernel
theorem d_Mo_register_65 : decode M_Mo_register.2.1 65 = .ok (.aload_n 0, 1) := by decide +kernel
theorem d_Mo_register_66 : decode M_Mo_register.2.1 66 = .ok (.getfield 103, 3) := by decide +kernel
theorem d_Mo_register_69 : decode M_Mo_register.2.1 69 = .ok (.imul, 1) := by decide +kernel
theorem d_Mo_register_70 : decode M_Mo_register.2.1 70 = .ok (.iload_n 2, 1) := by decide +kernel
theorem d_Mo_register_71 : decode M_Mo_register.2.1 71 = .ok (.iadd, 1) := by decide +kernel
theorem d_Mo_register_72 : decode M_Mo_register.2.1 72 = .ok (.aload_n 0, 1) := by decide +kernel
theorem d_Mo_register_73 : decode M_Mo_register.2.1 73 = .ok (.getfield 112, 3) := by decide +kernel
theorem d_Mo_register_76 : decode M_Mo_register.2.1 76 = .ok (.bipush 8, 2) := by decide +kernel
theorem d_Mo_register_78 : decode M_Mo_register.2.1 78 = .ok (.iadd, 1) := by decide +kernel
theorem d_Mo_register_79 : decode M_Mo_register.2.1 79 = .ok (.iastore, 1) := by decide +kernel
theorem d_Mo_register_80 : decode M_Mo_register.2.1 80 = .ok (.aload_n 0, 1) := by decide +kernel
theorem d_Mo_register_81 : decode M_Mo_register.2.1 81 = .ok (.aload_n 0, 1) := by decide +kernel
theorem d_Mo_register_82 : decode M_Mo_register.2.1 82 = .ok (.getfield 103, 3) := by decide +kernel
theorem d_Mo_register_85 : decode M_Mo_register.2.1 85 = .ok (.iload_n 2, 1) := by decide +kernel
theorem d_Mo_register_86 : decode M_Mo_register.2.1 86 = .ok (.iconst 1, 1) := by decide +kernel
theorem d_Mo_register_87 : decode M_Mo_register.2.1 87 = .ok (.invokevirtual 140, 3) := by decide +kernel
theorem d_Mo_register_90 : decode M_Mo_register.2.1 90 = .ok (.istore_n 3, 1) := by decide +kernel
theorem d_Mo_register_91 : decode M_Mo_register.2.1 91 = .ok (.aload_n 0, 1) := by decide +kernel
theorem d_Mo_register_92 : decode M_Mo_register.2.1 92 = .ok (.getfield 50, 3) := by decide +kernel
theorem d_Mo_register_95 : decode M_Mo_register.2.1 95 = .ok (.bipush 18, 2) := by decide +kernel
theorem d_Mo_register_97 : decode M_Mo_register.2.1 97 = .ok (.aload_n 0, 1) := by decide +kernel
theorem d_Mo_register_98 : decode M_Mo_register.2.1 98 = .ok (.getfield 103, 3) := by decide +kernel
theorem d_Mo_register_101 : decode M_Mo_register.2.1 101 = .ok (.imul, 1) := by decide +kernel
theorem d_Mo_register_102 : decode M_Mo_register.2.1 102 = .ok (.iload_n 2, 1) := by decide +kernel
theorem d_Mo_register_103 : decode M_Mo_register.2.1 103 = .ok (.iadd, 1) := by decide +kernel
theorem d_Mo_register_104 : decode M_Mo_register.2.1 104 = .ok (.baload, 1) := by decide +kernel
theorem d_Mo_register_105 : decode M_Mo_register.2.1 105 = .ok (.ifCond .ne 7, 3) := by decide +kernel
theorem d_Mo_register_108 : decode M_Mo_register.2.1 108 = .ok (.iload_n 3, 1) := by decide +kernel
theorem d_Mo_register_109 : decode M_Mo_register.2.1 109 = .ok (.ifCond .ne 32, 3) := by decide +kernel
theorem d_Mo_register_112 : decode M_Mo_register.2.1 112 = .ok (.aload_n 0, 1) := by decide +kernel
theorem d_Mo_register_113 : decode M_Mo_register.2.1 113 = .ok (.getfield 56, 3) := by decide +kernel
theorem d_Mo_register_116 : decode M_Mo_register.2.1 116 = .ok (.bipush 7, 2) := by decide +kernel
theorem d_Mo_register_118 : decode M_Mo_register.2.1 118 = .ok (.aload_n 0, 1) := by decide +kernel
theorem d_Mo_register_119 : decode M_Mo_register.2.1 119 = .ok (.getfield 56, 3) := by decide +kernel
theorem d_Mo_register_122 : decode M_Mo_register.2.1 122 = .ok (.bipush 7, 2) := by decide +kernel
theorem d_Mo_register_124 : decode M_Mo_register.2.1 124 = .ok (.iaload, 1) := by decide +kernel
theorem d_Mo_register_125 : decode M_Mo_register.2.1 125 = .ok (.iconst 1, 1) := by decide +kernel
theorem d_Mo_register_126 : decode M_Mo_register.2.1 126 = .ok (.iadd, 1) := by decide +kernel
theorem d_Mo_register_127 : decode M_Mo_register.2.1 127 = .ok (.iastore, 1) := by decide +kernel
theorem d_Mo_register_128 : decode M_Mo_register.2.1 128 = .ok (.aload_n 0, 1) := by decide +kernel
theorem d_Mo_register_129 : decode M_Mo_register.2.1 129 = .ok (.getfield 53, 3) := by decide +kernel
theorem d_Mo_register_132 : decode M_Mo_register.2.1 132 = .ok (.iload_n 2, 1) := by decide +kernel
theorem d_Mo_register_133 : decode M_Mo_register.2.1 133 = .ok (.aload_n 0, 1) := by decide +kernel
theorem d_Mo_register_134 : decode M_Mo_register.2.1 134 = .ok (.getfield 112, 3) := by decide +kernel
theorem d_Mo_register_137 : decode M_Mo_register.2.1 137 = .ok (.bipush 6, 2) := by decide +kernel
theorem d_Mo_register_139 : decode M_Mo_register.2.1 139 = .ok (.iadd, 1) := by decide +kernel
theorem d_Mo_register_140 : decode M_Mo_register.2.1 140 = .ok (.iastore, 1) := by decide +kernel
theorem d_Mo_register_141 : decode M_Mo_register.2.1 141 = .ok (.iconst 1, 1) := by decide +kernel
theorem d_Mo_register_142 : decode M_Mo_register.2.1 142 = .ok (.ireturn, 1) := by decide +kernel
theorem d_Mo_putOut_0 : decode M_Mo_putOut.2.1 0 = .ok (.aload_n 0, 1) := by decide +kernel
theorem d_Mo_putOut_1 : decode M_Mo_putOut.2.1 1 = .ok (.getfield 65, 3) := by decide +kernel
theorem d_Mo_putOut_4 : decode M_Mo_putOut.2.1 4 = .ok (.iload_n 1, 1) := by decide +kernel
theorem d_Mo_putOut_5 : decode M_Mo_putOut.2.1 5 = .ok (.iconst 1, 1) := by decide +kernel
theorem d_Mo_putOut_6 : decode M_Mo_putOut.2.1 6 = .ok (.bastore, 1) := by decide +kernel
theorem d_Mo_putOut_7 : decode M_Mo_putOut.2.1 7 = .ok (.aload_n 0, 1) := by decide +kernel
theorem d_Mo_putOut_8 : decode M_Mo_putOut.2.1 8 = .ok (.iload_n 1, 1) := by decide +kernel
theorem d_Mo_putOut_9 : decode M_Mo_putOut.2.1 9 = .ok (.iload_n 3, 1) := by decide +kernel
theorem d_Mo_putOut_10 : decode M_Mo_putOut.2.1 10 = .ok (.iconst 3, 1) := by decide +kernel
theorem d_Mo_putOut_11 : decode M_Mo_putOut.2.1 11 = .ok (.irem, 1) := by decide +kernel
theorem d_Mo_putOut_12 : decode M_Mo_putOut.2.1 12 = .ok (.invokevirtual 130, 3) := by decide +kernel
theorem d_Mo_putOut_15 : decode M_Mo_putOut.2.1 15 = .ok (.ifCond .eq 20, 3) := by decide +kernel
theorem d_Mo_putOut_18 : decode M_Mo_putOut.2.1 18 = .ok (.iload_n 1, 1) := by decide +kernel
theorem d_Mo_putOut_19 : decode M_Mo_putOut.2.1 19 = .ok (.iload_n 2, 1) := by decide +kernel
theorem d_Mo_putOut_20 : decode M_Mo_putOut.2.1 20 = .ok (.if_icmp .eq 15, 3) := by decide +kernel
theorem d_Mo_putOut_23 : decode M_Mo_putOut.2.1 23 = .ok (.aload_n 0, 1) := by decide +kernel
theorem d_Mo_putOut_24 : decode M_Mo_putOut.2.1 24 = .ok (.aload_n 0, 1) := by decide +kernel
theorem d_Mo_putOut_25 : decode M_Mo_putOut.2.1 25 = .ok (.getfield 176, 3) := by decide +kernel
theorem d_Mo_putOut_28 : decode M_Mo_putOut.2.1 28 = .ok (.iconst 1, 1) := by decide +kernel
theorem d_Mo_putOut_29 : decode M_Mo_putOut.2.1 29 = .ok (.iload_n 1, 1) := by decide +kernel
theorem d_Mo_putOut_30 : decode M_Mo_putOut.2.1 30 = .ok (.ishl, 1) := by decide +kernel
theorem d_Mo_putOut_31 : decode M_Mo_putOut.2.1 31 = .ok (.ior, 1) := by decide +kernel
theorem d_Mo_putOut_32 : decode M_Mo_putOut.2.1 32 = .ok (.putfield 176, 3) := by decide +kernel
theorem d_Mo_putOut_35 : decode M_Mo_putOut.2.1 35 = .ok (.iconst 0, 1) := by decide +kernel
theorem d_Mo_putOut_36 : decode M_Mo_putOut.2.1 36 = .ok (.istore 4, 2) := by decide +kernel
theorem d_Mo_putOut_38 : decode M_Mo_putOut.2.1 38 = .ok (.iload 4, 2) := by decide +kernel
theorem d_Mo_putOut_40 : decode M_Mo_putOut.2.1 40 = .ok (.bipush 6, 2) := by decide +kernel
theorem d_Mo_putOut_42 : decode M_Mo_putOut.2.1 42 = .ok (.if_icmp .ge 158, 3) := by decide +kernel
theorem d_Mo_putOut_45 : decode M_Mo_putOut.2.1 45 = .ok (.aload_n 0, 1) := by decide +kernel
theorem d_Mo_putOut_46 : decode M_Mo_putOut.2.1 46 = .ok (.getfield 50, 3) := by decide +kernel
theorem d_Mo_putOut_49 : decode M_Mo_putOut.2.1 49 = .ok (.bipush 18, 2) := by decide +kernel
theorem d_Mo_putOut_51 : decode M_Mo_putOut.2.1 51 = .ok (.iload_n 1, 1) := by decide +kernel
theorem d_Mo_putOut_52 : decode M_Mo_putOut.2.1 52 = .ok (.imul, 1) := by decide +kernel
theorem d_Mo_putOut_53 : decode M_Mo_putOut.2.1 53 = .ok (.iload_n 3, 1) := by decide +kernel
theorem d_Mo_putOut_54 : decode M_Mo_putOut.2.1 54 = .ok (.iadd, 1) := by decide +kernel
theorem d_Mo_putOut_55 : decode M_Mo_putOut.2.1 55 = .ok (.baload, 1) := by decide +kernel
theorem d_Mo_putOut_56 : decode M_Mo_putOut.2.1 56 = .ok (.ifCond .eq 14, 3) := by decide +kernel
theorem d_Mo_putOut_59 : decode M_Mo_putOut.2.1 59 = .ok (.aload_n 0, 1) := by decide +kernel
theorem d_Mo_putOut_60 : decode M_Mo_putOut.2.1 60 = .ok (.iload_n 1, 1) := by decide +kernel
theorem d_Mo_putOut_61 : decode M_Mo_putOut.2.1 61 = .ok (.iload 4, 2) := by decide +kernel
theorem d_Mo_putOut_63 : decode M_Mo_putOut.2.1 63 = .ok (.iload_n 3, 1) := by decide +kernel
theorem d_Mo_putOut_64 : decode M_Mo_putOut.2.1 64 = .ok (.invokevirtual 137, 3) := by decide +kernel
theorem d_Mo_putOut_67 : decode M_Mo_putOut.2.1 67 = .ok (.goto 11, 3) := by decide +kernel
theorem d_Mo_putOut_70 : decode M_Mo_putOut.2.1 70 = .ok (.aload_n 0, 1) := by decide +kernel
theorem d_Mo_putOut_71 : decode M_Mo_putOut.2.1 71 = .ok (.iload_n 1, 1) := by decide +kernel
theorem d_Mo_putOut_72 : decode M_Mo_putOut.2.1 72 = .ok (.iload 4, 2) := by decide +kernel
theorem d_Mo_putOut_74 : decode M_Mo_putOut.2.1 74 = .ok (.iload_n 3, 1) := by decide +kernel
theorem d_Mo_putOut_75 : decode M_Mo_putOut.2.1 75 = .ok (.invokevirtual 134, 3) := by decide +kernel
theorem d_Mo_putOut_78 : decode M_Mo_putOut.2.1 78 = .ok (.istore 5, 2) := by decide +kernel
theorem d_Mo_putOut_80 : decode M_Mo_putOut.2.1 80 = .ok (.iload 5, 2) := by decide +kernel
theorem d_Mo_putOut_82 : decode M_Mo_putOut.2.1 82 = .ok (.ifCond .eq 112, 3) := by decide +kernel
theorem d_Mo_putOut_85 : decode M_Mo_putOut.2.1 85 = .ok (.iload 4, 2) := by decide +kernel
theorem d_Mo_putOut_87 : decode M_Mo_putOut.2.1 87 = .ok (.aload_n 0, 1) := by decide +kernel
theorem d_Mo_putOut_88 : decode M_Mo_putOut.2.1 88 = .ok (.getfield 68, 3) := by decide +kernel
theorem d_Mo_putOut_91 : decode M_Mo_putOut.2.1 91 = .ok (.iload_n 1, 1) := by decide +kernel
theorem d_Mo_putOut_92 : decode M_Mo_putOut.2.1 92 = .ok (.iaload, 1) := by decide +kernel
theorem d_Mo_putOut_93 : decode M_Mo_putOut.2.1 93 = .ok (.if_icmp .eq 101, 3) := by decide +kernel
theorem d_Mo_putOut_96 : decode M_Mo_putOut.2.1 96 = .ok (.aload_n 0, 1) := by decide +kernel
theorem d_Mo_putOut_97 : decode M_Mo_putOut.2.1 97 = .ok (.aload_n 0, 1) := by decide +kernel
theorem d_Mo_putOut_98 : decode M_Mo_putOut.2.1 98 = .ok (.getfield 170, 3) := by decide +kernel
theorem d_Mo_putOut_101 : decode M_Mo_putOut.2.1 101 = .ok (.iconst 1, 1) := by decide +kernel
theorem d_Mo_putOut_102 : decode M_Mo_putOut.2.1 102 = .ok (.iadd, 1) := by decide +kernel
theorem d_Mo_putOut_103 : decode M_Mo_putOut.2.1 103 = .ok (.putfield 170, 3) := by decide +kernel
theorem d_Mo_putOut_106 : decode M_Mo_putOut.2.1 106 = .ok (.aload_n 0, 1) := by decide +kernel
theorem d_Mo_putOut_107 : decode M_Mo_putOut.2.1 107 = .ok (.getfield 50, 3) := by decide +kernel
theorem d_Mo_putOut_110 : decode M_Mo_putOut.2.1 110 = .ok (.bipush 18, 2) := by decide +kernel
theorem d_Mo_putOut_112 : decode M_Mo_putOut.2.1 112 = .ok (.iload 4, 2) := by decide +kernel
theorem d_Mo_putOut_114 : decode M_Mo_putOut.2.1 114 = .ok (.imul, 1) := by decide +kernel
theorem d_Mo_putOut_115 : decode M_Mo_putOut.2.1 115 = .ok (.iload_n 3, 1) := by decide +kernel
theorem d_Mo_putOut_116 : decode M_Mo_putOut.2.1 116 = .ok (.iadd, 1) := by decide +kernel
theorem d_Mo_putOut_117 : decode M_Mo_putOut.2.1 117 = .ok (.baload, 1) := by decide +kernel
theorem d_Mo_putOut_118 : decode M_Mo_putOut.2.1 118 = .ok (.ifCond .eq 18, 3) := by decide +kernel
theorem d_Mo_putOut_121 : decode M_Mo_putOut.2.1 121 = .ok (.aload_n 0, 1) := by decide +kernel
theorem d_Mo_putOut_122 : decode M_Mo_putOut.2.1 122 = .ok (.getfield 16, 3) := by decide +kernel
theorem d_Mo_putOut_125 : decode M_Mo_putOut.2.1 125 = .ok (.bipush 6, 2) := by decide +kernel
theorem d_Mo_putOut_127 : decode M_Mo_putOut.2.1 127 = .ok (.iload 4, 2) := by decide +kernel
theorem d_Mo_putOut_129 : decode M_Mo_putOut.2.1 129 = .ok (.imul, 1) := by decide +kernel
theorem d_Mo_putOut_130 : decode M_Mo_putOut.2.1 130 = .ok (.iload_n 2, 1) := by decide +kernel
theorem d_Mo_putOut_131 : decode M_Mo_putOut.2.1 131 = .ok (.iadd, 1) := by decide +kernel
theorem d_Mo_putOut_132 : decode M_Mo_putOut.2.1 132 = .ok (.iaload, 1) := by decide +kernel
theorem d_Mo_putOut_133 : decode M_Mo_putOut.2.1 133 = .ok (.goto 18, 3) := by decide +kernel
theorem d_Mo_putOut_136 : decode M_Mo_putOut.2.1 136 = .ok (.aload_n 0, 1) := by decide +kernel
theorem d_Mo_putOut_137 : decode M_Mo_putOut.2.1 137 = .ok (.getfield 16, 3) := by decide +kernel
theorem d_Mo_putOut_140 : decode M_Mo_putOut.2.1 140 = .ok (.bipush 6, 2) := by decide +kernel
theorem d_Mo_putOut_142 : decode M_Mo_putOut.2.1 142 = .ok (.iload 4, 2) := by decide +kernel
theorem d_Mo_putOut_144 : decode M_Mo_putOut.2.1 144 = .ok (.imul, 1) := by decide +kernel
theorem d_Mo_putOut_145 : decode M_Mo_putOut.2.1 145 = .ok (.aload_n 0, 1) := by decide +kernel
theorem d_Mo_putOut_146 : decode M_Mo_putOut.2.1 146 = .ok (.getfield 103, 3) := by decide +kernel
theorem d_Mo_putOut_149 : decode M_Mo_putOut.2.1 149 = .ok (.iadd, 1) := by decide +kernel
theorem d_Mo_putOut_150 : decode M_Mo_putOut.2.1 150 = .ok (.iaload, 1) := by decide +kernel
theorem d_Mo_putOut_151 : decode M_Mo_putOut.2.1 151 = .ok (.istore 6, 2) := by decide +kernel
theorem d_Mo_putOut_153 : decode M_Mo_putOut.2.1 153 = .ok (.iload 4, 2) := by decide +kernel
theorem d_Mo_putOut_155 : decode M_Mo_putOut.2.1 155 = .ok (.iload_n 2, 1) := by decide +kernel
theorem d_Mo_putOut_156 : decode M_Mo_putOut.2.1 156 = .ok (.if_icmp .eq 28, 3) := by decide +kernel
theorem d_Mo_putOut_159 : decode M_Mo_putOut.2.1 159 = .ok (.iload 6, 2) := by decide +kernel
theorem d_Mo_putOut_161 : decode M_Mo_putOut.2.1 161 = .ok (.iload_n 1, 1) := by decide +kernel
theorem d_Mo_putOut_162 : decode M_Mo_putOut.2.1 162 = .ok (.if_icmp .ne 22, 3) := by decide +kernel
theorem d_Mo_putOut_165 : decode M_Mo_putOut.2.1 165 = .ok (.aload_n 0, 1) := by decide +kernel
theorem d_Mo_putOut_166 : decode M_Mo_putOut.2.1 166 = .ok (.getfield 62, 3) := by decide +kernel
theorem d_Mo_putOut_169 : decode M_Mo_putOut.2.1 169 = .ok (.iload 4, 2) := by decide +kernel
theorem d_Mo_putOut_171 : decode M_Mo_putOut.2.1 171 = .ok (.iconst 1, 1) := by decide +kernel
theorem d_Mo_putOut_172 : decode M_Mo_putOut.2.1 172 = .ok (.bastore, 1) := by decide +kernel
theorem d_Mo_putOut_173 : decode M_Mo_putOut.2.1 173 = .ok (.aload_n 0, 1) := by decide +kernel
theorem d_Mo_putOut_174 : decode M_Mo_putOut.2.1 174 = .ok (.getfield 68, 3) := by decide +kernel
theorem d_Mo_putOut_177 : decode M_Mo_putOut.2.1 177 = .ok (.iload 4, 2) := by decide +kernel
theorem d_Mo_putOut_179 : decode M_Mo_putOut.2.1 179 = .ok (.iload_n 1, 1) := by decide +kernel
theorem d_Mo_putOut_180 : decode M_Mo_putOut.2.1 180 = .ok (.iastore, 1) := by decide +kernel
theorem d_Mo_putOut_181 : decode M_Mo_putOut.2.1 181 = .ok (.goto 13, 3) := by decide +kernel
theorem d_Mo_putOut_184 : decode M_Mo_putOut.2.1 184 = .ok (.aload_n 0, 1) := by decide +kernel
theorem d_Mo_putOut_185 : decode M_Mo_putOut.2.1 185 = .ok (.aload_n 0, 1) := by decide +kernel
theorem d_Mo_putOut_186 : decode M_Mo_putOut.2.1 186 = .ok (.getfield 173, 3) := by decide +kernel
theorem d_Mo_putOut_189 : decode M_Mo_putOut.2.1 189 = .ok (.iconst 1, 1) := by decide +kernel
theorem d_Mo_putOut_190 : decode M_Mo_putOut.2.1 190 = .ok (.iadd, 1) := by decide +kernel
theorem d_Mo_putOut_191 : decode M_Mo_putOut.2.1 191 = .ok (.putfield 173, 3) := by decide +kernel
theorem d_Mo_putOut_194 : decode M_Mo_putOut.2.1 194 = .ok (.iinc 4 1, 3) := by decide +kernel
theorem d_Mo_putOut_197 : decode M_Mo_putOut.2.1 197 = .ok (.goto (-159), 3) := by decide +kernel
theorem d_Mo_putOut_200 : decode M_Mo_putOut.2.1 200 = .ok (.return_, 1) := by decide +kernel
theorem d_Mo_arrive_0 : decode M_Mo_arrive.2.1 0 = .ok (.aload_n 0, 1) := by decide +kernel
theorem d_Mo_arrive_1 : decode M_Mo_arrive.2.1 1 = .ok (.iload_n 1, 1) := by decide +kernel
theorem d_Mo_arrive_2 : decode M_Mo_arrive.2.1 2 = .ok (.iload_n 2, 1) := by decide +kernel
theorem d_Mo_arrive_3 : decode M_Mo_arrive.2.1 3 = .ok (.iconst 3, 1) := by decide +kernel
theorem d_Mo_arrive_4 : decode M_Mo_arrive.2.1 4 = .ok (.irem, 1) := by decide +kernel
theorem d_Mo_arrive_5 : decode M_Mo_arrive.2.1 5 = .ok (.invokevirtual 130, 3) := by decide +kernel
theorem d_Mo_arrive_8 : decode M_Mo_arrive.2.1 8 = .ok (.ifCond .eq 15, 3) := by decide +kernel
theorem d_Mo_arrive_11 : decode M_Mo_arrive.2.1 11 = .ok (.aload_n 0, 1) := by decide +kernel
theorem d_Mo_arrive_12 : decode M_Mo_arrive.2.1 12 = .ok (.aload_n 0, 1) := by decide +kernel
theorem d_Mo_arrive_13 : decode M_Mo_arrive.2.1 13 = .ok (.getfield 176, 3) := by decide +kernel
theorem d_Mo_arrive_16 : decode M_Mo_arrive.2.1 16 = .ok (.iconst 1, 1) := by decide +kernel
theorem d_Mo_arrive_17 : decode M_Mo_arrive.2.1 17 = .ok (.iload_n 1, 1) := by decide +kernel
theorem d_Mo_arrive_18 : decode M_Mo_arrive.2.1 18 = .ok (.ishl, 1) := by decide +kernel
theorem d_Mo_arrive_19 : decode M_Mo_arrive.2.1 19 = .ok (.ior, 1) := by decide +kernel
theorem d_Mo_arrive_20 : decode M_Mo_arrive.2.1 20 = .ok (.putfield 176, 3) := by decide +kernel
theorem d_Mo_arrive_23 : decode M_Mo_arrive.2.1 23 = .ok (.iconst 0, 1) := by decide +kernel
theorem d_Mo_arrive_24 : decode M_Mo_arrive.2.1 24 = .ok (.istore_n 3, 1) := by decide +kernel
theorem d_Mo_arrive_25 : decode M_Mo_arrive.2.1 25 = .ok (.iconst 0, 1) := by decide +kernel
theorem d_Mo_arrive_26 : decode M_Mo_arrive.2.1 26 = .ok (.istore 4, 2) := by decide +kernel
theorem d_Mo_arrive_28 : decode M_Mo_arrive.2.1 28 = .ok (.iload 4, 2) := by decide +kernel
theorem d_Mo_arrive_30 : decode M_Mo_arrive.2.1 30 = .ok (.bipush 6, 2) := by decide +kernel
theorem d_Mo_arrive_32 : decode M_Mo_arrive.2.1 32 = .ok (.if_icmp .ge 137, 3) := by decide +kernel
theorem d_Mo_arrive_35 : decode M_Mo_arrive.2.1 35 = .ok (.aload_n 0, 1) := by decide +kernel
theorem d_Mo_arrive_36 : decode M_Mo_arrive.2.1 36 = .ok (.getfield 62, 3) := by decide +kernel
theorem d_Mo_arrive_39 : decode M_Mo_arrive.2.1 39 = .ok (.iload 4, 2) := by decide +kernel
theorem d_Mo_arrive_41 : decode M_Mo_arrive.2.1 41 = .ok (.baload, 1) := by decide +kernel
theorem d_Mo_arrive_42 : decode M_Mo_arrive.2.1 42 = .ok (.ifCond .eq 49, 3) := by decide +kernel
theorem d_Mo_arrive_45 : decode M_Mo_arrive.2.1 45 = .ok (.aload_n 0, 1) := by decide +kernel
theorem d_Mo_arrive_46 : decode M_Mo_arrive.2.1 46 = .ok (.getfield 50, 3) := by decide +kernel
theorem d_Mo_arrive_49 : decode M_Mo_arrive.2.1 49 = .ok (.bipush 18, 2) := by decide +kernel
theorem d_Mo_arrive_51 : decode M_Mo_arrive.2.1 51 = .ok (.iload 4, 2) := by decide +kernel
theorem d_Mo_arrive_53 : decode M_Mo_arrive.2.1 53 = .ok (.imul, 1) := by decide +kernel
theorem d_Mo_arrive_54 : decode M_Mo_arrive.2.1 54 = .ok (.iload_n 2, 1) := by decide +kernel
theorem d_Mo_arrive_55 : decode M_Mo_arrive.2.1 55 = .ok (.iadd, 1) := by decide +kernel
theorem d_Mo_arrive_56 : decode M_Mo_arrive.2.1 56 = .ok (.baload, 1) := by decide +kernel
theorem d_Mo_arrive_57 : decode M_Mo_arrive.2.1 57 = .ok (.ifCond .ne 34, 3) := by decide +kernel
theorem d_Mo_arrive_60 : decode M_Mo_arrive.2.1 60 = .ok (.aload_n 0, 1) := by decide +kernel
theorem d_Mo_arrive_61 : decode M_Mo_arrive.2.1 61 = .ok (.iload 4, 2) := by decide +kernel
theorem d_Mo_arrive_63 : decode M_Mo_arrive.2.1 63 = .ok (.iload_n 2, 1) := by decide +kernel
theorem d_Mo_arrive_64 : decode M_Mo_arrive.2.1 64 = .ok (.iconst 3, 1) := by decide +kernel
theorem d_Mo_arrive_65 : decode M_Mo_arrive.2.1 65 = .ok (.irem, 1) := by decide +kernel
theorem d_Mo_arrive_66 : decode M_Mo_arrive.2.1 66 = .ok (.invokevirtual 130, 3) := by decide +kernel
theorem d_Mo_arrive_69 : decode M_Mo_arrive.2.1 69 = .ok (.ifCond .eq 22, 3) := by decide +kernel
theorem d_Mo_arrive_72 : decode M_Mo_arrive.2.1 72 = .ok (.aload_n 0, 1) := by decide +kernel
theorem d_Mo_arrive_73 : decode M_Mo_arrive.2.1 73 = .ok (.getfield 47, 3) := by decide +kernel
theorem d_Mo_arrive_76 : decode M_Mo_arrive.2.1 76 = .ok (.bipush 18, 2) := by decide +kernel
theorem d_Mo_arrive_78 : decode M_Mo_arrive.2.1 78 = .ok (.iload 4, 2) := by decide +kernel
theorem d_Mo_arrive_80 : decode M_Mo_arrive.2.1 80 = .ok (.imul, 1) := by decide +kernel
theorem d_Mo_arrive_81 : decode M_Mo_arrive.2.1 81 = .ok (.iload_n 2, 1) := by decide +kernel
theorem d_Mo_arrive_82 : decode M_Mo_arrive.2.1 82 = .ok (.iadd, 1) := by decide +kernel
theorem d_Mo_arrive_83 : decode M_Mo_arrive.2.1 83 = .ok (.aload_n 0, 1) := by decide +kernel
theorem d_Mo_arrive_84 : decode M_Mo_arrive.2.1 84 = .ok (.getfield 112, 3) := by decide +kernel
theorem d_Mo_arrive_87 : decode M_Mo_arrive.2.1 87 = .ok (.bipush 8, 2) := by decide +kernel
theorem d_Mo_arrive_89 : decode M_Mo_arrive.2.1 89 = .ok (.iadd, 1) := by decide +kernel
theorem d_Mo_arrive_90 : decode M_Mo_arrive.2.1 90 = .ok (.iastore, 1) := by decide +kernel
theorem d_Mo_arrive_91 : decode M_Mo_arrive.2.1 91 = .ok (.aload_n 0, 1) := by decide +kernel
theorem d_Mo_arrive_92 : decode M_Mo_arrive.2.1 92 = .ok (.getfield 176, 3) := by decide +kernel
theorem d_Mo_arrive_95 : decode M_Mo_arrive.2.1 95 = .ok (.iload 4, 2) := by decide +kernel
theorem d_Mo_arrive_97 : decode M_Mo_arrive.2.1 97 = .ok (.ishr, 1) := by decide +kernel
theorem d_Mo_arrive_98 : decode M_Mo_arrive.2.1 98 = .ok (.iconst 1, 1) := by decide +kernel
theorem d_Mo_arrive_99 : decode M_Mo_arrive.2.1 99 = .ok (.iand, 1) := by decide +kernel
theorem d_Mo_arrive_100 : decode M_Mo_arrive.2.1 100 = .ok (.iconst 1, 1) := by decide +kernel
theorem d_Mo_arrive_101 : decode M_Mo_arrive.2.1 101 = .ok (.if_icmp .ne 32, 3) := by decide +kernel
theorem d_Mo_arrive_104 : decode M_Mo_arrive.2.1 104 = .ok (.aload_n 0, 1) := by decide +kernel
theorem d_Mo_arrive_105 : decode M_Mo_arrive.2.1 105 = .ok (.getfield 59, 3) := by decide +kernel
theorem d_Mo_arrive_108 : decode M_Mo_arrive.2.1 108 = .ok (.iload 4, 2) := by decide +kernel
theorem d_Mo_arrive_110 : decode M_Mo_arrive.2.1 110 = .ok (.iaload, 1) := by decide +kernel
theorem d_Mo_arrive_111 : decode M_Mo_arrive.2.1 111 = .ok (.ifCond .le 22, 3) := by decide +kernel
theorem d_Mo_arrive_114 : decode M_Mo_arrive.2.1 114 = .ok (.aload_n 0, 1) := by decide +kernel
theorem d_Mo_arrive_115 : decode M_Mo_arrive.2.1 115 = .ok (.getfield 59, 3) := by decide +kernel
theorem d_Mo_arrive_118 : decode M_Mo_arrive.2.1 118 = .ok (.iload 4, 2) := by decide +kernel
theorem d_Mo_arrive_120 : decode M_Mo_arrive.2.1 120 = .ok (.aload_n 0, 1) := by decide +kernel
theorem d_Mo_arrive_121 : decode M_Mo_arrive.2.1 121 = .ok (.getfield 59, 3) := by decide +kernel
theorem d_Mo_arrive_124 : decode M_Mo_arrive.2.1 124 = .ok (.iload 4, 2) := by decide +kernel
theorem d_Mo_arrive_126 : decode M_Mo_arrive.2.1 126 = .ok (.iaload, 1) := by decide +kernel
theorem d_Mo_arrive_127 : decode M_Mo_arrive.2.1 127 = .ok (.iconst 1, 1) := by decide +kernel
theorem d_Mo_arrive_128 : decode M_Mo_arrive.2.1 128 = .ok (.isub, 1) := by decide +kernel
theorem d_Mo_arrive_129 : decode M_Mo_arrive.2.1 129 = .ok (.iastore, 1) := by decide +kernel
theorem d_Mo_arrive_130 : decode M_Mo_arrive.2.1 130 = .ok (.goto 33, 3) := by decide +kernel
theorem d_Mo_arrive_133 : decode M_Mo_arrive.2.1 133 = .ok (.aload_n 0, 1) := by decide +kernel
theorem d_Mo_arrive_134 : decode M_Mo_arrive.2.1 134 = .ok (.getfield 176, 3) := by decide +kernel
theorem d_Mo_arrive_137 : decode M_Mo_arrive.2.1 137 = .ok (.iload 4, 2) := by decide +kernel
theorem d_Mo_arrive_139 : decode M_Mo_arrive.2.1 139 = .ok (.ishr, 1) := by decide +kernel
theorem d_Mo_arrive_140 : decode M_Mo_arrive.2.1 140 = .ok (.iconst 1, 1) := by decide +kernel
theorem d_Mo_arrive_141 : decode M_Mo_arrive.2.1 141 = .ok (.iand, 1) := by decide +kernel
theorem d_Mo_arrive_142 : decode M_Mo_arrive.2.1 142 = .ok (.iconst 1, 1) := by decide +kernel
theorem d_Mo_arrive_143 : decode M_Mo_arrive.2.1 143 = .ok (.if_icmp .ne 20, 3) := by decide +kernel
theorem d_Mo_arrive_146 : decode M_Mo_arrive.2.1 146 = .ok (.aload_n 0, 1) := by decide +kernel
theorem d_Mo_arrive_147 : decode M_Mo_arrive.2.1 147 = .ok (.aload_n 0, 1) := by decide +kernel
theorem d_Mo_arrive_148 : decode M_Mo_arrive.2.1 148 = .ok (.getfield 179, 3) := by decide +kernel
theorem d_Mo_arrive_151 : decode M_Mo_arrive.2.1 151 = .ok (.iconst 1, 1) := by decide +kernel
theorem d_Mo_arrive_152 : decode M_Mo_arrive.2.1 152 = .ok (.iload 4, 2) := by decide +kernel
theorem d_Mo_arrive_154 : decode M_Mo_arrive.2.1 154 = .ok (.ishl, 1) := by decide +kernel
theorem d_Mo_arrive_155 : decode M_Mo_arrive.2.1 155 = .ok (.ior, 1) := by decide +kernel
theorem d_Mo_arrive_156 : decode M_Mo_arrive.2.1 156 = .ok (.putfield 179, 3) := by decide +kernel
theorem d_Mo_arrive_159 : decode M_Mo_arrive.2.1 159 = .ok (.iload_n 3, 1) := by decide +kernel
theorem d_Mo_arrive_160 : decode M_Mo_arrive.2.1 160 = .ok (.iconst 1, 1) := by decide +kernel
theorem d_Mo_arrive_161 : decode M_Mo_arrive.2.1 161 = .ok (.iadd, 1) := by decide +kernel
theorem d_Mo_arrive_162 : decode M_Mo_arrive.2.1 162 = .ok (.istore_n 3, 1) := by decide +kernel
theorem d_Mo_arrive_163 : decode M_Mo_arrive.2.1 163 = .ok (.iinc 4 1, 3) := by decide +kernel
theorem d_Mo_arrive_166 : decode M_Mo_arrive.2.1 166 = .ok (.goto (-138), 3) := by decide +kernel
theorem d_Mo_arrive_169 : decode M_Mo_arrive.2.1 169 = .ok (.aload_n 0, 1) := by decide +kernel
theorem d_Mo_arrive_170 : decode M_Mo_arrive.2.1 170 = .ok (.invokevirtual 109, 3) := by decide +kernel
theorem d_Mo_arrive_173 : decode M_Mo_arrive.2.1 173 = .ok (.iload_n 3, 1) := by decide +kernel
theorem d_Mo_arrive_174 : decode M_Mo_arrive.2.1 174 = .ok (.ireturn, 1) := by decide +kernel
theorem d_Mo_crossings_0 : decode M_Mo_crossings.2.1 0 = .ok (.aload_n 0, 1) := by decide +kernel
theorem d_Mo_crossings_1 : decode M_Mo_crossings.2.1 1 = .ok (.getfield 170, 3) := by decide +kernel
theorem d_Mo_crossings_4 : decode M_Mo_crossings.2.1 4 = .ok (.ireturn, 1) := by decide +kernel
theorem d_Mo_drops_0 : decode M_Mo_drops.2.1 0 = .ok (.aload_n 0, 1) := by decide +kernel
theorem d_Mo_drops_1 : decode M_Mo_drops.2.1 1 = .ok (.getfield 173, 3) := by decide +kernel
theorem d_Mo_drops_4 : decode M_Mo_drops.2.1 4 = .ok (.ireturn, 1) := by decide +kernel
theorem d_Mo_reached_0 : decode M_Mo_reached.2.1 0 = .ok (.aload_n 0, 1) := by decide +kernel
theorem d_Mo_reached_1 : decode M_Mo_reached.2.1 1 = .ok (.getfield 176, 3) := by decide +kernel
theorem d_Mo_reached_4 : decode M_Mo_reached.2.1 4 = .ok (.ireturn, 1) := by decide +kernel
theorem d_Mo_heard_0 : decode M_Mo_heard.2.1 0 = .ok (.aload_n 0, 1) := by decide +kernel
theorem d_Mo_heard_1 : decode M_Mo_heard.2.1 1 = .ok (.getfield 179, 3) := by decide +kernel
theorem d_Mo_heard_4 : decode M_Mo_heard.2.1 4 = .ok (.ireturn, 1) := by decide +kernel
theorem d_Mo_lose_0 : decode M_Mo_lose.2.1 0 = .ok (.iload_n 1, 1) := by decide +kernel
theorem d_Mo_lose_1 : decode M_Mo_lose.2.1 1 = .ok (.invokestatic 99, 3) := by decide +kernel
theorem d_Mo_lose_4 : decode M_Mo_lose.2.1 4 = .ok (.ifCond .eq 13, 3) := by decide +kernel
theorem d_Mo_lose_7 : decode M_Mo_lose.2.1 7 = .ok (.iload_n 2, 1) := by decide +kernel
theorem d_Mo_lose_8 : decode M_Mo_lose.2.1 8 = .ok (.ifCond .lt 9, 3) := by decide +kernel
theorem d_Mo_lose_11 : decode M_Mo_lose.2.1 11 = .ok (.iload_n 2, 1) := by decide +kernel
theorem d_Mo_lose_12 : decode M_Mo_lose.2.1 12 = .ok (.bipush 9, 2) := by decide +kernel
theorem d_Mo_lose_14 : decode M_Mo_lose.2.1 14 = .ok (.if_icmp .le 5, 3) := by decide +kernel
theorem d_Mo_lose_17 : decode M_Mo_lose.2.1 17 = .ok (.iconst 0, 1) := by decide +kernel
theorem d_Mo_lose_18 : decode M_Mo_lose.2.1 18 = .ok (.ireturn, 1) := by decide +kernel
theorem d_Mo_lose_19 : decode M_Mo_lose.2.1 19 = .ok (.aload_n 0, 1) := by decide +kernel
theorem d_Mo_lose_20 : decode M_Mo_lose.2.1 20 = .ok (.getfield 59, 3) := by decide +kernel
theorem d_Mo_lose_23 : decode M_Mo_lose.2.1 23 = .ok (.iload_n 1, 1) := by decide +kernel
theorem d_Mo_lose_24 : decode M_Mo_lose.2.1 24 = .ok (.iload_n 2, 1) := by decide +kernel
theorem d_Mo_lose_25 : decode M_Mo_lose.2.1 25 = .ok (.iastore, 1) := by decide +kernel
theorem d_Mo_lose_26 : decode M_Mo_lose.2.1 26 = .ok (.iconst 1, 1) := by decide +kernel
theorem d_Mo_lose_27 : decode M_Mo_lose.2.1 27 = .ok (.ireturn, 1) := by decide +kernel
theorem d_Mo_publish_0 : decode M_Mo_publish.2.1 0 = .ok (.iload_n 1, 1) := by decide +kernel
theorem d_Mo_publish_1 : decode M_Mo_publish.2.1 1 = .ok (.invokestatic 99, 3) := by decide +kernel
theorem d_Mo_publish_4 : decode M_Mo_publish.2.1 4 = .ok (.ifCond .eq 29, 3) := by decide +kernel
theorem d_Mo_publish_7 : decode M_Mo_publish.2.1 7 = .ok (.iload_n 2, 1) := by decide +kernel
theorem d_Mo_publish_8 : decode M_Mo_publish.2.1 8 = .ok (.invokestatic 115, 3) := by decide +kernel
theorem d_Mo_publish_11 : decode M_Mo_publish.2.1 11 = .ok (.ifCond .eq 22, 3) := by decide +kernel
theorem d_Mo_publish_14 : decode M_Mo_publish.2.1 14 = .ok (.iload_n 3, 1) := by decide +kernel
theorem d_Mo_publish_15 : decode M_Mo_publish.2.1 15 = .ok (.iconst 1, 1) := by decide +kernel
theorem d_Mo_publish_16 : decode M_Mo_publish.2.1 16 = .ok (.if_icmp .lt 17, 3) := by decide +kernel
theorem d_Mo_publish_19 : decode M_Mo_publish.2.1 19 = .ok (.iload_n 3, 1) := by decide +kernel
theorem d_Mo_publish_20 : decode M_Mo_publish.2.1 20 = .ok (.bipush 16, 2) := by decide +kernel
theorem d_Mo_publish_22 : decode M_Mo_publish.2.1 22 = .ok (.if_icmp .gt 11, 3) := by decide +kernel
theorem d_Mo_publish_25 : decode M_Mo_publish.2.1 25 = .ok (.aload_n 0, 1) := by decide +kernel
theorem d_Mo_publish_26 : decode M_Mo_publish.2.1 26 = .ok (.getfield 191, 3) := by decide +kernel
theorem d_Mo_publish_29 : decode M_Mo_publish.2.1 29 = .ok (.iconst 4, 1) := by decide +kernel
theorem d_Mo_publish_30 : decode M_Mo_publish.2.1 30 = .ok (.if_icmp .lt 5, 3) := by decide +kernel
theorem d_Mo_publish_33 : decode M_Mo_publish.2.1 33 = .ok (.iconst (-1), 1) := by decide +kernel
theorem d_Mo_publish_34 : decode M_Mo_publish.2.1 34 = .ok (.ireturn, 1) := by decide +kernel
theorem d_Mo_publish_35 : decode M_Mo_publish.2.1 35 = .ok (.aload_n 0, 1) := by decide +kernel
theorem d_Mo_publish_36 : decode M_Mo_publish.2.1 36 = .ok (.getfield 71, 3) := by decide +kernel
theorem d_Mo_publish_39 : decode M_Mo_publish.2.1 39 = .ok (.aload_n 0, 1) := by decide +kernel
theorem d_Mo_publish_40 : decode M_Mo_publish.2.1 40 = .ok (.getfield 191, 3) := by decide +kernel
theorem d_Mo_publish_43 : decode M_Mo_publish.2.1 43 = .ok (.iload_n 1, 1) := by decide +kernel
theorem d_Mo_publish_44 : decode M_Mo_publish.2.1 44 = .ok (.iastore, 1) := by decide +kernel
theorem d_Mo_publish_45 : decode M_Mo_publish.2.1 45 = .ok (.aload_n 0, 1) := by decide +kernel
theorem d_Mo_publish_46 : decode M_Mo_publish.2.1 46 = .ok (.getfield 74, 3) := by decide +kernel
theorem d_Mo_publish_49 : decode M_Mo_publish.2.1 49 = .ok (.aload_n 0, 1) := by decide +kernel
theorem d_Mo_publish_50 : decode M_Mo_publish.2.1 50 = .ok (.getfield 191, 3) := by decide +kernel
theorem d_Mo_publish_53 : decode M_Mo_publish.2.1 53 = .ok (.iload_n 2, 1) := by decide +kernel
theorem d_Mo_publish_54 : decode M_Mo_publish.2.1 54 = .ok (.iastore, 1) := by decide +kernel
theorem d_Mo_publish_55 : decode M_Mo_publish.2.1 55 = .ok (.aload_n 0, 1) := by decide +kernel
theorem d_Mo_publish_56 : decode M_Mo_publish.2.1 56 = .ok (.getfield 77, 3) := by decide +kernel
theorem d_Mo_publish_59 : decode M_Mo_publish.2.1 59 = .ok (.aload_n 0, 1) := by decide +kernel
theorem d_Mo_publish_60 : decode M_Mo_publish.2.1 60 = .ok (.getfield 191, 3) := by decide +kernel
theorem d_Mo_publish_63 : decode M_Mo_publish.2.1 63 = .ok (.iload_n 3, 1) := by decide +kernel
theorem d_Mo_publish_64 : decode M_Mo_publish.2.1 64 = .ok (.iastore, 1) := by decide +kernel
theorem d_Mo_publish_65 : decode M_Mo_publish.2.1 65 = .ok (.aload_n 0, 1) := by decide +kernel
theorem d_Mo_publish_66 : decode M_Mo_publish.2.1 66 = .ok (.aload_n 0, 1) := by decide +kernel
theorem d_Mo_publish_67 : decode M_Mo_publish.2.1 67 = .ok (.getfield 191, 3) := by decide +kernel
theorem d_Mo_publish_70 : decode M_Mo_publish.2.1 70 = .ok (.iconst 1, 1) := by decide +kernel
theorem d_Mo_publish_71 : decode M_Mo_publish.2.1 71 = .ok (.iadd, 1) := by decide +kernel
theorem d_Mo_publish_72 : decode M_Mo_publish.2.1 72 = .ok (.putfield 191, 3) := by decide +kernel
theorem d_Mo_publish_75 : decode M_Mo_publish.2.1 75 = .ok (.aload_n 0, 1) := by decide +kernel
theorem d_Mo_publish_76 : decode M_Mo_publish.2.1 76 = .ok (.getfield 191, 3) := by decide +kernel
theorem d_Mo_publish_79 : decode M_Mo_publish.2.1 79 = .ok (.iconst 1, 1) := by decide +kernel
theorem d_Mo_publish_80 : decode M_Mo_publish.2.1 80 = .ok (.isub, 1) := by decide +kernel
theorem d_Mo_publish_81 : decode M_Mo_publish.2.1 81 = .ok (.ireturn, 1) := by decide +kernel
theorem d_Mo_emit_0 : decode M_Mo_emit.2.1 0 = .ok (.aload_n 0, 1) := by decide +kernel
theorem d_Mo_emit_1 : decode M_Mo_emit.2.1 1 = .ok (.iload_n 1, 1) := by decide +kernel
theorem d_Mo_emit_2 : decode M_Mo_emit.2.1 2 = .ok (.invokevirtual 194, 3) := by decide +kernel
theorem d_Mo_emit_5 : decode M_Mo_emit.2.1 5 = .ok (.ifCond .eq 22, 3) := by decide +kernel
theorem d_Mo_emit_8 : decode M_Mo_emit.2.1 8 = .ok (.aload_n 0, 1) := by decide +kernel
theorem d_Mo_emit_9 : decode M_Mo_emit.2.1 9 = .ok (.aload_n 0, 1) := by decide +kernel
theorem d_Mo_emit_10 : decode M_Mo_emit.2.1 10 = .ok (.getfield 71, 3) := by decide +kernel
theorem d_Mo_emit_13 : decode M_Mo_emit.2.1 13 = .ok (.iload_n 1, 1) := by decide +kernel
theorem d_Mo_emit_14 : decode M_Mo_emit.2.1 14 = .ok (.iaload, 1) := by decide +kernel
theorem d_Mo_emit_15 : decode M_Mo_emit.2.1 15 = .ok (.aload_n 0, 1) := by decide +kernel
theorem d_Mo_emit_16 : decode M_Mo_emit.2.1 16 = .ok (.getfield 74, 3) := by decide +kernel
theorem d_Mo_emit_19 : decode M_Mo_emit.2.1 19 = .ok (.iload_n 1, 1) := by decide +kernel
theorem d_Mo_emit_20 : decode M_Mo_emit.2.1 20 = .ok (.iaload, 1) := by decide +kernel
theorem d_Mo_emit_21 : decode M_Mo_emit.2.1 21 = .ok (.invokevirtual 164, 3) := by decide +kernel
theorem d_Mo_emit_24 : decode M_Mo_emit.2.1 24 = .ok (.ifCond .eq 5, 3) := by decide +kernel
theorem d_Mo_emit_27 : decode M_Mo_emit.2.1 27 = .ok (.iconst (-1), 1) := by decide +kernel
theorem d_Mo_emit_28 : decode M_Mo_emit.2.1 28 = .ok (.ireturn, 1) := by decide +kernel
theorem d_Mo_emit_29 : decode M_Mo_emit.2.1 29 = .ok (.aload_n 0, 1) := by decide +kernel
theorem d_Mo_emit_30 : decode M_Mo_emit.2.1 30 = .ok (.iload_n 1, 1) := by decide +kernel
theorem d_Mo_emit_31 : decode M_Mo_emit.2.1 31 = .ok (.invokevirtual 197, 3) := by decide +kernel
theorem d_Mo_emit_34 : decode M_Mo_emit.2.1 34 = .ok (.istore_n 2, 1) := by decide +kernel
theorem d_Mo_emit_35 : decode M_Mo_emit.2.1 35 = .ok (.aload_n 0, 1) := by decide +kernel
theorem d_Mo_emit_36 : decode M_Mo_emit.2.1 36 = .ok (.aload_n 0, 1) := by decide +kernel
theorem d_Mo_emit_37 : decode M_Mo_emit.2.1 37 = .ok (.getfield 71, 3) := by decide +kernel
theorem d_Mo_emit_40 : decode M_Mo_emit.2.1 40 = .ok (.iload_n 1, 1) := by decide +kernel
theorem d_Mo_emit_41 : decode M_Mo_emit.2.1 41 = .ok (.iaload, 1) := by decide +kernel
theorem d_Mo_emit_42 : decode M_Mo_emit.2.1 42 = .ok (.iconst 3, 1) := by decide +kernel
theorem d_Mo_emit_43 : decode M_Mo_emit.2.1 43 = .ok (.aload_n 0, 1) := by decide +kernel
theorem d_Mo_emit_44 : decode M_Mo_emit.2.1 44 = .ok (.getfield 71, 3) := by decide +kernel
theorem d_Mo_emit_47 : decode M_Mo_emit.2.1 47 = .ok (.iload_n 1, 1) := by decide +kernel
theorem d_Mo_emit_48 : decode M_Mo_emit.2.1 48 = .ok (.iaload, 1) := by decide +kernel
theorem d_Mo_emit_49 : decode M_Mo_emit.2.1 49 = .ok (.imul, 1) := by decide +kernel
theorem d_Mo_emit_50 : decode M_Mo_emit.2.1 50 = .ok (.aload_n 0, 1) := by decide +kernel
theorem d_Mo_emit_51 : decode M_Mo_emit.2.1 51 = .ok (.getfield 74, 3) := by decide +kernel
theorem d_Mo_emit_54 : decode M_Mo_emit.2.1 54 = .ok (.iload_n 1, 1) := by decide +kernel
theorem d_Mo_emit_55 : decode M_Mo_emit.2.1 55 = .ok (.iaload, 1) := by decide +kernel
theorem d_Mo_emit_56 : decode M_Mo_emit.2.1 56 = .ok (.iadd, 1) := by decide +kernel
theorem d_Mo_emit_57 : decode M_Mo_emit.2.1 57 = .ok (.invokevirtual 167, 3) := by decide +kernel
theorem d_Mo_emit_60 : decode M_Mo_emit.2.1 60 = .ok (.pop, 1) := by decide +kernel
theorem d_Mo_emit_61 : decode M_Mo_emit.2.1 61 = .ok (.iload_n 2, 1) := by decide +kernel
theorem d_Mo_emit_62 : decode M_Mo_emit.2.1 62 = .ok (.aload_n 0, 1) := by decide +kernel
theorem d_Mo_emit_63 : decode M_Mo_emit.2.1 63 = .ok (.getfield 77, 3) := by decide +kernel
theorem d_Mo_emit_66 : decode M_Mo_emit.2.1 66 = .ok (.iload_n 1, 1) := by decide +kernel
theorem d_Mo_emit_67 : decode M_Mo_emit.2.1 67 = .ok (.iaload, 1) := by decide +kernel
theorem d_Mo_emit_68 : decode M_Mo_emit.2.1 68 = .ok (.if_icmp .ge 9, 3) := by decide +kernel
theorem d_Mo_emit_71 : decode M_Mo_emit.2.1 71 = .ok (.iload_n 2, 1) := by decide +kernel
theorem d_Mo_emit_72 : decode M_Mo_emit.2.1 72 = .ok (.iconst 1, 1) := by decide +kernel
theorem d_Mo_emit_73 : decode M_Mo_emit.2.1 73 = .ok (.iadd, 1) := by decide +kernel
theorem d_Mo_emit_74 : decode M_Mo_emit.2.1 74 = .ok (.goto 4, 3) := by decide +kernel
theorem d_Mo_emit_77 : decode M_Mo_emit.2.1 77 = .ok (.iload_n 2, 1) := by decide +kernel
theorem d_Mo_emit_78 : decode M_Mo_emit.2.1 78 = .ok (.istore_n 3, 1) := by decide +kernel
theorem d_Mo_emit_79 : decode M_Mo_emit.2.1 79 = .ok (.iconst 0, 1) := by decide +kernel
theorem d_Mo_emit_80 : decode M_Mo_emit.2.1 80 = .ok (.istore 4, 2) := by decide +kernel
theorem d_Mo_emit_82 : decode M_Mo_emit.2.1 82 = .ok (.iload 4, 2) := by decide +kernel
theorem d_Mo_emit_84 : decode M_Mo_emit.2.1 84 = .ok (.bipush 6, 2) := by decide +kernel
theorem d_Mo_emit_86 : decode M_Mo_emit.2.1 86 = .ok (.if_icmp .ge 113, 3) := by decide +kernel
theorem d_Mo_emit_89 : decode M_Mo_emit.2.1 89 = .ok (.bipush 6, 2) := by decide +kernel
theorem d_Mo_emit_91 : decode M_Mo_emit.2.1 91 = .ok (.iload_n 1, 1) := by decide +kernel
theorem d_Mo_emit_92 : decode M_Mo_emit.2.1 92 = .ok (.imul, 1) := by decide +kernel
theorem d_Mo_emit_93 : decode M_Mo_emit.2.1 93 = .ok (.iload 4, 2) := by decide +kernel
theorem d_Mo_emit_95 : decode M_Mo_emit.2.1 95 = .ok (.iadd, 1) := by decide +kernel
theorem d_Mo_emit_96 : decode M_Mo_emit.2.1 96 = .ok (.istore 5, 2) := by decide +kernel
theorem d_Mo_emit_98 : decode M_Mo_emit.2.1 98 = .ok (.aload_n 0, 1) := by decide +kernel
theorem d_Mo_emit_99 : decode M_Mo_emit.2.1 99 = .ok (.getfield 179, 3) := by decide +kernel
theorem d_Mo_emit_102 : decode M_Mo_emit.2.1 102 = .ok (.iload 4, 2) := by decide +kernel
theorem d_Mo_emit_104 : decode M_Mo_emit.2.1 104 = .ok (.ishr, 1) := by decide +kernel
theorem d_Mo_emit_105 : decode M_Mo_emit.2.1 105 = .ok (.iconst 1, 1) := by decide +kernel
theorem d_Mo_emit_106 : decode M_Mo_emit.2.1 106 = .ok (.iand, 1) := by decide +kernel
theorem d_Mo_emit_107 : decode M_Mo_emit.2.1 107 = .ok (.iconst 1, 1) := by decide +kernel
theorem d_Mo_emit_108 : decode M_Mo_emit.2.1 108 = .ok (.if_icmp .ne 85, 3) := by decide +kernel
theorem d_Mo_emit_111 : decode M_Mo_emit.2.1 111 = .ok (.aload_n 0, 1) := by decide +kernel
theorem d_Mo_emit_112 : decode M_Mo_emit.2.1 112 = .ok (.iload 4, 2) := by decide +kernel
theorem d_Mo_emit_114 : decode M_Mo_emit.2.1 114 = .ok (.aload_n 0, 1) := by decide +kernel
theorem d_Mo_emit_115 : decode M_Mo_emit.2.1 115 = .ok (.getfield 74, 3) := by decide +kernel
theorem d_Mo_emit_118 : decode M_Mo_emit.2.1 118 = .ok (.iload_n 1, 1) := by decide +kernel
theorem d_Mo_emit_119 : decode M_Mo_emit.2.1 119 = .ok (.iaload, 1) := by decide +kernel
theorem d_Mo_emit_120 : decode M_Mo_emit.2.1 120 = .ok (.invokevirtual 126, 3) := by decide +kernel
theorem d_Mo_emit_123 : decode M_Mo_emit.2.1 123 = .ok (.ifCond .lt 70, 3) := by decide +kernel
theorem d_Mo_emit_126 : decode M_Mo_emit.2.1 126 = .ok (.aload_n 0, 1) := by decide +kernel
theorem d_Mo_emit_127 : decode M_Mo_emit.2.1 127 = .ok (.getfield 86, 3) := by decide +kernel
theorem d_Mo_emit_130 : decode M_Mo_emit.2.1 130 = .ok (.iload 5, 2) := by decide +kernel
theorem d_Mo_emit_132 : decode M_Mo_emit.2.1 132 = .ok (.iload_n 2, 1) := by decide +kernel
theorem d_Mo_emit_133 : decode M_Mo_emit.2.1 133 = .ok (.aload_n 0, 1) := by decide +kernel
theorem d_Mo_emit_134 : decode M_Mo_emit.2.1 134 = .ok (.getfield 77, 3) := by decide +kernel
theorem d_Mo_emit_137 : decode M_Mo_emit.2.1 137 = .ok (.iload_n 1, 1) := by decide +kernel
theorem d_Mo_emit_138 : decode M_Mo_emit.2.1 138 = .ok (.iaload, 1) := by decide +kernel
theorem d_Mo_emit_139 : decode M_Mo_emit.2.1 139 = .ok (.if_icmp .ge 17, 3) := by decide +kernel
theorem d_Mo_emit_142 : decode M_Mo_emit.2.1 142 = .ok (.aload_n 0, 1) := by decide +kernel
theorem d_Mo_emit_143 : decode M_Mo_emit.2.1 143 = .ok (.getfield 86, 3) := by decide +kernel
theorem d_Mo_emit_146 : decode M_Mo_emit.2.1 146 = .ok (.iload 5, 2) := by decide +kernel
theorem d_Mo_emit_148 : decode M_Mo_emit.2.1 148 = .ok (.iaload, 1) := by decide +kernel
theorem d_Mo_emit_149 : decode M_Mo_emit.2.1 149 = .ok (.iconst 1, 1) := by decide +kernel
theorem d_Mo_emit_150 : decode M_Mo_emit.2.1 150 = .ok (.iload_n 2, 1) := by decide +kernel
theorem d_Mo_emit_151 : decode M_Mo_emit.2.1 151 = .ok (.ishl, 1) := by decide +kernel
theorem d_Mo_emit_152 : decode M_Mo_emit.2.1 152 = .ok (.ior, 1) := by decide +kernel
theorem d_Mo_emit_153 : decode M_Mo_emit.2.1 153 = .ok (.goto 10, 3) := by decide +kernel
theorem d_Mo_emit_156 : decode M_Mo_emit.2.1 156 = .ok (.aload_n 0, 1) := by decide +kernel
theorem d_Mo_emit_157 : decode M_Mo_emit.2.1 157 = .ok (.getfield 86, 3) := by decide +kernel
theorem d_Mo_emit_160 : decode M_Mo_emit.2.1 160 = .ok (.iload 5, 2) := by decide +kernel
theorem d_Mo_emit_162 : decode M_Mo_emit.2.1 162 = .ok (.iaload, 1) := by decide +kernel
theorem d_Mo_emit_163 : decode M_Mo_emit.2.1 163 = .ok (.iastore, 1) := by decide +kernel
theorem d_Mo_emit_164 : decode M_Mo_emit.2.1 164 = .ok (.aload_n 0, 1) := by decide +kernel
theorem d_Mo_emit_165 : decode M_Mo_emit.2.1 165 = .ok (.getfield 89, 3) := by decide +kernel
theorem d_Mo_emit_168 : decode M_Mo_emit.2.1 168 = .ok (.iload 5, 2) := by decide +kernel
theorem d_Mo_emit_170 : decode M_Mo_emit.2.1 170 = .ok (.iload_n 3, 1) := by decide +kernel
theorem d_Mo_emit_171 : decode M_Mo_emit.2.1 171 = .ok (.aload_n 0, 1) := by decide +kernel
theorem d_Mo_emit_172 : decode M_Mo_emit.2.1 172 = .ok (.getfield 89, 3) := by decide +kernel
theorem d_Mo_emit_175 : decode M_Mo_emit.2.1 175 = .ok (.iload 5, 2) := by decide +kernel
theorem d_Mo_emit_177 : decode M_Mo_emit.2.1 177 = .ok (.iaload, 1) := by decide +kernel
theorem d_Mo_emit_178 : decode M_Mo_emit.2.1 178 = .ok (.if_icmp .le 7, 3) := by decide +kernel
theorem d_Mo_emit_181 : decode M_Mo_emit.2.1 181 = .ok (.iload_n 3, 1) := by decide +kernel
theorem d_Mo_emit_182 : decode M_Mo_emit.2.1 182 = .ok (.goto 10, 3) := by decide +kernel
theorem d_Mo_emit_185 : decode M_Mo_emit.2.1 185 = .ok (.aload_n 0, 1) := by decide +kernel
theorem d_Mo_emit_186 : decode M_Mo_emit.2.1 186 = .ok (.getfield 89, 3) := by decide +kernel
theorem d_Mo_emit_189 : decode M_Mo_emit.2.1 189 = .ok (.iload 5, 2) := by decide +kernel
theorem d_Mo_emit_191 : decode M_Mo_emit.2.1 191 = .ok (.iaload, 1) := by decide +kernel
theorem d_Mo_emit_192 : decode M_Mo_emit.2.1 192 = .ok (.iastore, 1) := by decide +kernel
theorem d_Mo_emit_193 : decode M_Mo_emit.2.1 193 = .ok (.iinc 4 1, 3) := by decide +kernel
theorem d_Mo_emit_196 : decode M_Mo_emit.2.1 196 = .ok (.goto (-114), 3) := by decide +kernel
theorem d_Mo_emit_199 : decode M_Mo_emit.2.1 199 = .ok (.iload_n 2, 1) := by decide +kernel
theorem d_Mo_emit_200 : decode M_Mo_emit.2.1 200 = .ok (.ireturn, 1) := by decide +kernel
theorem d_Mo_isFile_0 : decode M_Mo_isFile.2.1 0 = .ok (.iload_n 1, 1) := by decide +kernel
theorem d_Mo_isFile_1 : decode M_Mo_isFile.2.1 1 = .ok (.ifCond .lt 15, 3) := by decide +kernel
theorem d_Mo_isFile_4 : decode M_Mo_isFile.2.1 4 = .ok (.iload_n 1, 1) := by decide +kernel
theorem d_Mo_isFile_5 : decode M_Mo_isFile.2.1 5 = .ok (.aload_n 0, 1) := by decide +kernel
theorem d_Mo_isFile_6 : decode M_Mo_isFile.2.1 6 = .ok (.getfield 191, 3) := by decide +kernel
theorem d_Mo_isFile_9 : decode M_Mo_isFile.2.1 9 = .ok (.if_icmp .ge 7, 3) := by decide +kernel
theorem d_Mo_isFile_12 : decode M_Mo_isFile.2.1 12 = .ok (.iconst 1, 1) := by decide +kernel
theorem d_Mo_isFile_13 : decode M_Mo_isFile.2.1 13 = .ok (.goto 4, 3) := by decide +kernel
theorem d_Mo_isFile_16 : decode M_Mo_isFile.2.1 16 = .ok (.iconst 0, 1) := by decide +kernel
theorem d_Mo_isFile_17 : decode M_Mo_isFile.2.1 17 = .ok (.ireturn, 1) := by decide +kernel
theorem d_Mo_take_0 : decode M_Mo_take.2.1 0 = .ok (.iconst 0, 1) := by decide +kernel
theorem d_Mo_take_1 : decode M_Mo_take.2.1 1 = .ok (.istore_n 2, 1) := by decide +kernel
theorem d_Mo_take_2 : decode M_Mo_take.2.1 2 = .ok (.iload_n 2, 1) := by decide +kernel
theorem d_Mo_take_3 : decode M_Mo_take.2.1 3 = .ok (.bipush 16, 2) := by decide +kernel
theorem d_Mo_take_5 : decode M_Mo_take.2.1 5 = .ok (.if_icmp .ge 43, 3) := by decide +kernel
theorem d_Mo_take_8 : decode M_Mo_take.2.1 8 = .ok (.aload_n 0, 1) := by decide +kernel
theorem d_Mo_take_9 : decode M_Mo_take.2.1 9 = .ok (.getfield 83, 3) := by decide +kernel
theorem d_Mo_take_12 : decode M_Mo_take.2.1 12 = .ok (.iload_n 1, 1) := by decide +kernel
theorem d_Mo_take_13 : decode M_Mo_take.2.1 13 = .ok (.iaload, 1) := by decide +kernel
theorem d_Mo_take_14 : decode M_Mo_take.2.1 14 = .ok (.iload_n 2, 1) := by decide +kernel
theorem d_Mo_take_15 : decode M_Mo_take.2.1 15 = .ok (.ishr, 1) := by decide +kernel
theorem d_Mo_take_16 : decode M_Mo_take.2.1 16 = .ok (.iconst 1, 1) := by decide +kernel
theorem d_Mo_take_17 : decode M_Mo_take.2.1 17 = .ok (.iand, 1) := by decide +kernel
theorem d_Mo_take_18 : decode M_Mo_take.2.1 18 = .ok (.iconst 1, 1) := by decide +kernel
theorem d_Mo_take_19 : decode M_Mo_take.2.1 19 = .ok (.if_icmp .ne 23, 3) := by decide +kernel
theorem d_Mo_take_22 : decode M_Mo_take.2.1 22 = .ok (.aload_n 0, 1) := by decide +kernel
theorem d_Mo_take_23 : decode M_Mo_take.2.1 23 = .ok (.getfield 83, 3) := by decide +kernel
theorem d_Mo_take_26 : decode M_Mo_take.2.1 26 = .ok (.iload_n 1, 1) := by decide +kernel
theorem d_Mo_take_27 : decode M_Mo_take.2.1 27 = .ok (.aload_n 0, 1) := by decide +kernel
theorem d_Mo_take_28 : decode M_Mo_take.2.1 28 = .ok (.getfield 83, 3) := by decide +kernel
theorem d_Mo_take_31 : decode M_Mo_take.2.1 31 = .ok (.iload_n 1, 1) := by decide +kernel
theorem d_Mo_take_32 : decode M_Mo_take.2.1 32 = .ok (.iaload, 1) := by decide +kernel
theorem d_Mo_take_33 : decode M_Mo_take.2.1 33 = .ok (.iconst 1, 1) := by decide +kernel
theorem d_Mo_take_34 : decode M_Mo_take.2.1 34 = .ok (.iload_n 2, 1) := by decide +kernel
theorem d_Mo_take_35 : decode M_Mo_take.2.1 35 = .ok (.ishl, 1) := by decide +kernel
theorem d_Mo_take_36 : decode M_Mo_take.2.1 36 = .ok (.iconst (-1), 1) := by decide +kernel
theorem d_Mo_take_37 : decode M_Mo_take.2.1 37 = .ok (.ixor, 1) := by decide +kernel
theorem d_Mo_take_38 : decode M_Mo_take.2.1 38 = .ok (.iand, 1) := by decide +kernel
theorem d_Mo_take_39 : decode M_Mo_take.2.1 39 = .ok (.iastore, 1) := by decide +kernel
theorem d_Mo_take_40 : decode M_Mo_take.2.1 40 = .ok (.iload_n 2, 1) := by decide +kernel
theorem d_Mo_take_41 : decode M_Mo_take.2.1 41 = .ok (.ireturn, 1) := by decide +kernel
theorem d_Mo_take_42 : decode M_Mo_take.2.1 42 = .ok (.iinc 2 1, 3) := by decide +kernel
theorem d_Mo_take_45 : decode M_Mo_take.2.1 45 = .ok (.goto (-43), 3) := by decide +kernel
theorem d_Mo_take_48 : decode M_Mo_take.2.1 48 = .ok (.aload_n 0, 1) := by decide +kernel
theorem d_Mo_take_49 : decode M_Mo_take.2.1 49 = .ok (.getfield 80, 3) := by decide +kernel
theorem d_Mo_take_52 : decode M_Mo_take.2.1 52 = .ok (.iload_n 1, 1) := by decide +kernel
theorem d_Mo_take_53 : decode M_Mo_take.2.1 53 = .ok (.iaload, 1) := by decide +kernel
theorem d_Mo_take_54 : decode M_Mo_take.2.1 54 = .ok (.aload_n 0, 1) := by decide +kernel
theorem d_Mo_take_55 : decode M_Mo_take.2.1 55 = .ok (.getfield 77, 3) := by decide +kernel
theorem d_Mo_take_58 : decode M_Mo_take.2.1 58 = .ok (.iload_n 1, 1) := by decide +kernel
theorem d_Mo_take_59 : decode M_Mo_take.2.1 59 = .ok (.iaload, 1) := by decide +kernel
theorem d_Mo_take_60 : decode M_Mo_take.2.1 60 = .ok (.if_icmp .lt 10, 3) := by decide +kernel
theorem d_Mo_take_63 : decode M_Mo_take.2.1 63 = .ok (.aload_n 0, 1) := by decide +kernel
theorem d_Mo_take_64 : decode M_Mo_take.2.1 64 = .ok (.getfield 77, 3) := by decide +kernel
theorem d_Mo_take_67 : decode M_Mo_take.2.1 67 = .ok (.iload_n 1, 1) := by decide +kernel
theorem d_Mo_take_68 : decode M_Mo_take.2.1 68 = .ok (.iaload, 1) := by decide +kernel
theorem d_Mo_take_69 : decode M_Mo_take.2.1 69 = .ok (.ireturn, 1) := by decide +kernel
theorem d_Mo_take_70 : decode M_Mo_take.2.1 70 = .ok (.aload_n 0, 1) := by decide +kernel
theorem d_Mo_take_71 : decode M_Mo_take.2.1 71 = .ok (.getfield 80, 3) := by decide +kernel
theorem d_Mo_take_74 : decode M_Mo_take.2.1 74 = .ok (.iload_n 1, 1) := by decide +kernel
theorem d_Mo_take_75 : decode M_Mo_take.2.1 75 = .ok (.aload_n 0, 1) := by decide +kernel
theorem d_Mo_take_76 : decode M_Mo_take.2.1 76 = .ok (.getfield 80, 3) := by decide +kernel
theorem d_Mo_take_79 : decode M_Mo_take.2.1 79 = .ok (.iload_n 1, 1) := by decide +kernel
theorem d_Mo_take_80 : decode M_Mo_take.2.1 80 = .ok (.iaload, 1) := by decide +kernel
theorem d_Mo_take_81 : decode M_Mo_take.2.1 81 = .ok (.iconst 1, 1) := by decide +kernel
theorem d_Mo_take_82 : decode M_Mo_take.2.1 82 = .ok (.iadd, 1) := by decide +kernel
theorem d_Mo_take_83 : decode M_Mo_take.2.1 83 = .ok (.iastore, 1) := by decide +kernel
theorem d_Mo_take_84 : decode M_Mo_take.2.1 84 = .ok (.aload_n 0, 1) := by decide +kernel
theorem d_Mo_take_85 : decode M_Mo_take.2.1 85 = .ok (.getfield 80, 3) := by decide +kernel
theorem d_Mo_take_88 : decode M_Mo_take.2.1 88 = .ok (.iload_n 1, 1) := by decide +kernel
theorem d_Mo_take_89 : decode M_Mo_take.2.1 89 = .ok (.iaload, 1) := by decide +kernel
theorem d_Mo_take_90 : decode M_Mo_take.2.1 90 = .ok (.iconst 1, 1) := by decide +kernel
theorem d_Mo_take_91 : decode M_Mo_take.2.1 91 = .ok (.isub, 1) := by decide +kernel
theorem d_Mo_take_92 : decode M_Mo_take.2.1 92 = .ok (.ireturn, 1) := by decide +kernel
theorem d_Mo_requests_0 : decode M_Mo_requests.2.1 0 = .ok (.aload_n 0, 1) := by decide +kernel
theorem d_Mo_requests_1 : decode M_Mo_requests.2.1 1 = .ok (.iload_n 1, 1) := by decide +kernel
theorem d_Mo_requests_2 : decode M_Mo_requests.2.1 2 = .ok (.invokevirtual 194, 3) := by decide +kernel
theorem d_Mo_requests_5 : decode M_Mo_requests.2.1 5 = .ok (.ifCond .ne 5, 3) := by decide +kernel
theorem d_Mo_requests_8 : decode M_Mo_requests.2.1 8 = .ok (.iconst (-1), 1) := by decide +kernel
theorem d_Mo_requests_9 : decode M_Mo_requests.2.1 9 = .ok (.ireturn, 1) := by decide +kernel
theorem d_Mo_requests_10 : decode M_Mo_requests.2.1 10 = .ok (.iconst 0, 1) := by decide +kernel
theorem d_Mo_requests_11 : decode M_Mo_requests.2.1 11 = .ok (.istore_n 2, 1) := by decide +kernel
theorem d_Mo_requests_12 : decode M_Mo_requests.2.1 12 = .ok (.iload_n 2, 1) := by decide +kernel
theorem d_Mo_requests_13 : decode M_Mo_requests.2.1 13 = .ok (.bipush 6, 2) := by decide +kernel
theorem d_Mo_requests_15 : decode M_Mo_requests.2.1 15 = .ok (.if_icmp .ge 102, 3) := by decide +kernel
theorem d_Mo_requests_18 : decode M_Mo_requests.2.1 18 = .ok (.aload_n 0, 1) := by decide +kernel
theorem d_Mo_requests_19 : decode M_Mo_requests.2.1 19 = .ok (.getfield 13, 3) := by decide +kernel
theorem d_Mo_requests_22 : decode M_Mo_requests.2.1 22 = .ok (.bipush 6, 2) := by decide +kernel
theorem d_Mo_requests_24 : decode M_Mo_requests.2.1 24 = .ok (.aload_n 0, 1) := by decide +kernel
theorem d_Mo_requests_25 : decode M_Mo_requests.2.1 25 = .ok (.getfield 71, 3) := by decide +kernel
theorem d_Mo_requests_28 : decode M_Mo_requests.2.1 28 = .ok (.iload_n 1, 1) := by decide +kernel
theorem d_Mo_requests_29 : decode M_Mo_requests.2.1 29 = .ok (.iaload, 1) := by decide +kernel
theorem d_Mo_requests_30 : decode M_Mo_requests.2.1 30 = .ok (.imul, 1) := by decide +kernel
theorem d_Mo_requests_31 : decode M_Mo_requests.2.1 31 = .ok (.iload_n 2, 1) := by decide +kernel
theorem d_Mo_requests_32 : decode M_Mo_requests.2.1 32 = .ok (.iadd, 1) := by decide +kernel
theorem d_Mo_requests_33 : decode M_Mo_requests.2.1 33 = .ok (.iaload, 1) := by decide +kernel
theorem d_Mo_requests_34 : decode M_Mo_requests.2.1 34 = .ok (.sipush 1000, 3) := by decide +kernel
theorem d_Mo_requests_37 : decode M_Mo_requests.2.1 37 = .ok (.if_icmp .ge 30, 3) := by decide +kernel
theorem d_Mo_requests_40 : decode M_Mo_requests.2.1 40 = .ok (.aload_n 0, 1) := by decide +kernel
theorem d_Mo_requests_41 : decode M_Mo_requests.2.1 41 = .ok (.iload_n 2, 1) := by decide +kernel
theorem d_Mo_requests_42 : decode M_Mo_requests.2.1 42 = .ok (.aload_n 0, 1) := by decide +kernel
theorem d_Mo_requests_43 : decode M_Mo_requests.2.1 43 = .ok (.getfield 74, 3) := by decide +kernel
theorem d_Mo_requests_46 : decode M_Mo_requests.2.1 46 = .ok (.iload_n 1, 1) := by decide +kernel
theorem d_Mo_requests_47 : decode M_Mo_requests.2.1 47 = .ok (.iaload, 1) := by decide +kernel
theorem d_Mo_requests_48 : decode M_Mo_requests.2.1 48 = .ok (.invokevirtual 126, 3) := by decide +kernel
theorem d_Mo_requests_51 : decode M_Mo_requests.2.1 51 = .ok (.ifCond .lt 16, 3) := by decide +kernel
theorem d_Mo_requests_54 : decode M_Mo_requests.2.1 54 = .ok (.aload_n 0, 1) := by decide +kernel
theorem d_Mo_requests_55 : decode M_Mo_requests.2.1 55 = .ok (.iload_n 1, 1) := by decide +kernel
theorem d_Mo_requests_56 : decode M_Mo_requests.2.1 56 = .ok (.iload_n 2, 1) := by decide +kernel
theorem d_Mo_requests_57 : decode M_Mo_requests.2.1 57 = .ok (.invokevirtual 201, 3) := by decide +kernel
theorem d_Mo_requests_60 : decode M_Mo_requests.2.1 60 = .ok (.ifCond .eq 7, 3) := by decide +kernel
theorem d_Mo_requests_63 : decode M_Mo_requests.2.1 63 = .ok (.iconst 1, 1) := by decide +kernel
theorem d_Mo_requests_64 : decode M_Mo_requests.2.1 64 = .ok (.goto 4, 3) := by decide +kernel
theorem d_Mo_requests_67 : decode M_Mo_requests.2.1 67 = .ok (.iconst 0, 1) := by decide +kernel
theorem d_Mo_requests_68 : decode M_Mo_requests.2.1 68 = .ok (.istore_n 3, 1) := by decide +kernel
theorem d_Mo_requests_69 : decode M_Mo_requests.2.1 69 = .ok (.aload_n 0, 1) := by decide +kernel
theorem d_Mo_requests_70 : decode M_Mo_requests.2.1 70 = .ok (.getfield 96, 3) := by decide +kernel
theorem d_Mo_requests_73 : decode M_Mo_requests.2.1 73 = .ok (.iload_n 2, 1) := by decide +kernel
theorem d_Mo_requests_74 : decode M_Mo_requests.2.1 74 = .ok (.iconst (-1), 1) := by decide +kernel
theorem d_Mo_requests_75 : decode M_Mo_requests.2.1 75 = .ok (.iastore, 1) := by decide +kernel
theorem d_Mo_requests_76 : decode M_Mo_requests.2.1 76 = .ok (.iload_n 3, 1) := by decide +kernel
theorem d_Mo_requests_77 : decode M_Mo_requests.2.1 77 = .ok (.ifCond .eq 34, 3) := by decide +kernel
theorem d_Mo_requests_80 : decode M_Mo_requests.2.1 80 = .ok (.aload_n 0, 1) := by decide +kernel
theorem d_Mo_requests_81 : decode M_Mo_requests.2.1 81 = .ok (.aload_n 0, 1) := by decide +kernel
theorem d_Mo_requests_82 : decode M_Mo_requests.2.1 82 = .ok (.getfield 92, 3) := by decide +kernel
theorem d_Mo_requests_85 : decode M_Mo_requests.2.1 85 = .ok (.ldc 204, 2) := by decide +kernel
theorem d_Mo_requests_87 : decode M_Mo_requests.2.1 87 = .ok (.imul, 1) := by decide +kernel
theorem d_Mo_requests_88 : decode M_Mo_requests.2.1 88 = .ok (.sipush 12345, 3) := by decide +kernel
theorem d_Mo_requests_91 : decode M_Mo_requests.2.1 91 = .ok (.iadd, 1) := by decide +kernel
theorem d_Mo_requests_92 : decode M_Mo_requests.2.1 92 = .ok (.putfield 92, 3) := by decide +kernel
theorem d_Mo_requests_95 : decode M_Mo_requests.2.1 95 = .ok (.aload_n 0, 1) := by decide +kernel
theorem d_Mo_requests_96 : decode M_Mo_requests.2.1 96 = .ok (.getfield 96, 3) := by decide +kernel
theorem d_Mo_requests_99 : decode M_Mo_requests.2.1 99 = .ok (.iload_n 2, 1) := by decide +kernel
theorem d_Mo_requests_100 : decode M_Mo_requests.2.1 100 = .ok (.aload_n 0, 1) := by decide +kernel
theorem d_Mo_requests_101 : decode M_Mo_requests.2.1 101 = .ok (.getfield 92, 3) := by decide +kernel
theorem d_Mo_requests_104 : decode M_Mo_requests.2.1 104 = .ok (.bipush 16, 2) := by decide +kernel
theorem d_Mo_requests_106 : decode M_Mo_requests.2.1 106 = .ok (.iushr, 1) := by decide +kernel
theorem d_Mo_requests_107 : decode M_Mo_requests.2.1 107 = .ok (.bipush 7, 2) := by decide +kernel
theorem d_Mo_requests_109 : decode M_Mo_requests.2.1 109 = .ok (.iand, 1) := by decide +kernel
theorem d_Mo_requests_110 : decode M_Mo_requests.2.1 110 = .ok (.iastore, 1) := by decide +kernel
theorem d_Mo_requests_111 : decode M_Mo_requests.2.1 111 = .ok (.iinc 2 1, 3) := by decide +kernel
theorem d_Mo_requests_114 : decode M_Mo_requests.2.1 114 = .ok (.goto (-102), 3) := by decide +kernel
theorem d_Mo_requests_117 : decode M_Mo_requests.2.1 117 = .ok (.iconst 0, 1) := by decide +kernel
theorem d_Mo_requests_118 : decode M_Mo_requests.2.1 118 = .ok (.istore_n 2, 1) := by decide +kernel
theorem d_Mo_requests_119 : decode M_Mo_requests.2.1 119 = .ok (.iconst 0, 1) := by decide +kernel
theorem d_Mo_requests_120 : decode M_Mo_requests.2.1 120 = .ok (.istore_n 3, 1) := by decide +kernel
theorem d_Mo_requests_121 : decode M_Mo_requests.2.1 121 = .ok (.iconst 0, 1) := by decide +kernel
theorem d_Mo_requests_122 : decode M_Mo_requests.2.1 122 = .ok (.istore 4, 2) := by decide +kernel
theorem d_Mo_requests_124 : decode M_Mo_requests.2.1 124 = .ok (.iload 4, 2) := by decide +kernel
theorem d_Mo_requests_126 : decode M_Mo_requests.2.1 126 = .ok (.bipush 8, 2) := by decide +kernel
theorem d_Mo_requests_128 : decode M_Mo_requests.2.1 128 = .ok (.if_icmp .ge 112, 3) := by decide +kernel
theorem d_Mo_requests_131 : decode M_Mo_requests.2.1 131 = .ok (.iconst 0, 1) := by decide +kernel
theorem d_Mo_requests_132 : decode M_Mo_requests.2.1 132 = .ok (.istore 5, 2) := by decide +kernel
theorem d_Mo_requests_134 : decode M_Mo_requests.2.1 134 = .ok (.iload 5, 2) := by decide +kernel
theorem d_Mo_requests_136 : decode M_Mo_requests.2.1 136 = .ok (.bipush 6, 2) := by decide +kernel
theorem d_Mo_requests_138 : decode M_Mo_requests.2.1 138 = .ok (.if_icmp .ge 96, 3) := by decide +kernel
theorem d_Mo_requests_141 : decode M_Mo_requests.2.1 141 = .ok (.aload_n 0, 1) := by decide +kernel
theorem d_Mo_requests_142 : decode M_Mo_requests.2.1 142 = .ok (.getfield 96, 3) := by decide +kernel
theorem d_Mo_requests_145 : decode M_Mo_requests.2.1 145 = .ok (.iload 5, 2) := by decide +kernel
theorem d_Mo_requests_147 : decode M_Mo_requests.2.1 147 = .ok (.iaload, 1) := by decide +kernel
theorem d_Mo_requests_148 : decode M_Mo_requests.2.1 148 = .ok (.iload 4, 2) := by decide +kernel
theorem d_Mo_requests_150 : decode M_Mo_requests.2.1 150 = .ok (.if_icmp .ne 36, 3) := by decide +kernel
theorem d_Mo_requests_153 : decode M_Mo_requests.2.1 153 = .ok (.aload_n 0, 1) := by decide +kernel
theorem d_Mo_requests_154 : decode M_Mo_requests.2.1 154 = .ok (.iload_n 1, 1) := by decide +kernel
theorem d_Mo_requests_155 : decode M_Mo_requests.2.1 155 = .ok (.iload 5, 2) := by decide +kernel
theorem d_Mo_requests_157 : decode M_Mo_requests.2.1 157 = .ok (.invokevirtual 201, 3) := by decide +kernel
theorem d_Mo_requests_160 : decode M_Mo_requests.2.1 160 = .ok (.iload_n 2, 1) := by decide +kernel
theorem d_Mo_requests_161 : decode M_Mo_requests.2.1 161 = .ok (.iconst (-1), 1) := by decide +kernel
theorem d_Mo_requests_162 : decode M_Mo_requests.2.1 162 = .ok (.ixor, 1) := by decide +kernel
theorem d_Mo_requests_163 : decode M_Mo_requests.2.1 163 = .ok (.iand, 1) := by decide +kernel
theorem d_Mo_requests_164 : decode M_Mo_requests.2.1 164 = .ok (.ifCond .ne 22, 3) := by decide +kernel
theorem d_Mo_requests_167 : decode M_Mo_requests.2.1 167 = .ok (.aload_n 0, 1) := by decide +kernel
theorem d_Mo_requests_168 : decode M_Mo_requests.2.1 168 = .ok (.getfield 56, 3) := by decide +kernel
theorem d_Mo_requests_171 : decode M_Mo_requests.2.1 171 = .ok (.bipush 9, 2) := by decide +kernel
theorem d_Mo_requests_173 : decode M_Mo_requests.2.1 173 = .ok (.aload_n 0, 1) := by decide +kernel
theorem d_Mo_requests_174 : decode M_Mo_requests.2.1 174 = .ok (.getfield 56, 3) := by decide +kernel
theorem d_Mo_requests_177 : decode M_Mo_requests.2.1 177 = .ok (.bipush 9, 2) := by decide +kernel
theorem d_Mo_requests_179 : decode M_Mo_requests.2.1 179 = .ok (.iaload, 1) := by decide +kernel
theorem d_Mo_requests_180 : decode M_Mo_requests.2.1 180 = .ok (.iconst 1, 1) := by decide +kernel
theorem d_Mo_requests_181 : decode M_Mo_requests.2.1 181 = .ok (.iadd, 1) := by decide +kernel
theorem d_Mo_requests_182 : decode M_Mo_requests.2.1 182 = .ok (.iastore, 1) := by decide +kernel
theorem d_Mo_requests_183 : decode M_Mo_requests.2.1 183 = .ok (.goto 45, 3) := by decide +kernel
theorem d_Mo_requests_186 : decode M_Mo_requests.2.1 186 = .ok (.aload_n 0, 1) := by decide +kernel
theorem d_Mo_requests_187 : decode M_Mo_requests.2.1 187 = .ok (.getfield 96, 3) := by decide +kernel
theorem d_Mo_requests_190 : decode M_Mo_requests.2.1 190 = .ok (.iload 5, 2) := by decide +kernel
theorem d_Mo_requests_192 : decode M_Mo_requests.2.1 192 = .ok (.iaload, 1) := by decide +kernel
theorem d_Mo_requests_193 : decode M_Mo_requests.2.1 193 = .ok (.iload 4, 2) := by decide +kernel
theorem d_Mo_requests_195 : decode M_Mo_requests.2.1 195 = .ok (.if_icmp .ne 33, 3) := by decide +kernel
theorem d_Mo_requests_198 : decode M_Mo_requests.2.1 198 = .ok (.iload_n 2, 1) := by decide +kernel
theorem d_Mo_requests_199 : decode M_Mo_requests.2.1 199 = .ok (.aload_n 0, 1) := by decide +kernel
theorem d_Mo_requests_200 : decode M_Mo_requests.2.1 200 = .ok (.iload_n 1, 1) := by decide +kernel
theorem d_Mo_requests_201 : decode M_Mo_requests.2.1 201 = .ok (.iload 5, 2) := by decide +kernel
theorem d_Mo_requests_203 : decode M_Mo_requests.2.1 203 = .ok (.invokevirtual 201, 3) := by decide +kernel
theorem d_Mo_requests_206 : decode M_Mo_requests.2.1 206 = .ok (.ior, 1) := by decide +kernel
theorem d_Mo_requests_207 : decode M_Mo_requests.2.1 207 = .ok (.istore_n 2, 1) := by decide +kernel
theorem d_Mo_requests_208 : decode M_Mo_requests.2.1 208 = .ok (.aload_n 0, 1) := by decide +kernel
theorem d_Mo_requests_209 : decode M_Mo_requests.2.1 209 = .ok (.getfield 56, 3) := by decide +kernel
theorem d_Mo_requests_212 : decode M_Mo_requests.2.1 212 = .ok (.bipush 8, 2) := by decide +kernel
theorem d_Mo_requests_214 : decode M_Mo_requests.2.1 214 = .ok (.aload_n 0, 1) := by decide +kernel
theorem d_Mo_requests_215 : decode M_Mo_requests.2.1 215 = .ok (.getfield 56, 3) := by decide +kernel
theorem d_Mo_requests_218 : decode M_Mo_requests.2.1 218 = .ok (.bipush 8, 2) := by decide +kernel
theorem d_Mo_requests_220 : decode M_Mo_requests.2.1 220 = .ok (.iaload, 1) := by decide +kernel
theorem d_Mo_requests_221 : decode M_Mo_requests.2.1 221 = .ok (.iconst 1, 1) := by decide +kernel
theorem d_Mo_requests_222 : decode M_Mo_requests.2.1 222 = .ok (.iadd, 1) := by decide +kernel
theorem d_Mo_requests_223 : decode M_Mo_requests.2.1 223 = .ok (.iastore, 1) := by decide +kernel
theorem d_Mo_requests_224 : decode M_Mo_requests.2.1 224 = .ok (.iload_n 3, 1) := by decide +kernel
theorem d_Mo_requests_225 : decode M_Mo_requests.2.1 225 = .ok (.iconst 1, 1) := by decide +kernel
theorem d_Mo_requests_226 : decode M_Mo_requests.2.1 226 = .ok (.iadd, 1) := by decide +kernel
theorem d_Mo_requests_227 : decode M_Mo_requests.2.1 227 = .ok (.istore_n 3, 1) := by decide +kernel
theorem d_Mo_requests_228 : decode M_Mo_requests.2.1 228 = .ok (.iinc 5 1, 3) := by decide +kernel
theorem d_Mo_requests_231 : decode M_Mo_requests.2.1 231 = .ok (.goto (-97), 3) := by decide +kernel
theorem d_Mo_requests_234 : decode M_Mo_requests.2.1 234 = .ok (.iinc 4 1, 3) := by decide +kernel
theorem d_Mo_requests_237 : decode M_Mo_requests.2.1 237 = .ok (.goto (-113), 3) := by decide +kernel
theorem d_Mo_requests_240 : decode M_Mo_requests.2.1 240 = .ok (.aload_n 0, 1) := by decide +kernel
theorem d_Mo_requests_241 : decode M_Mo_requests.2.1 241 = .ok (.getfield 83, 3) := by decide +kernel
theorem d_Mo_requests_244 : decode M_Mo_requests.2.1 244 = .ok (.iload_n 1, 1) := by decide +kernel
theorem d_Mo_requests_245 : decode M_Mo_requests.2.1 245 = .ok (.aload_n 0, 1) := by decide +kernel
theorem d_Mo_requests_246 : decode M_Mo_requests.2.1 246 = .ok (.getfield 83, 3) := by decide +kernel
theorem d_Mo_requests_249 : decode M_Mo_requests.2.1 249 = .ok (.iload_n 1, 1) := by decide +kernel
theorem d_Mo_requests_250 : decode M_Mo_requests.2.1 250 = .ok (.iaload, 1) := by decide +kernel
theorem d_Mo_requests_251 : decode M_Mo_requests.2.1 251 = .ok (.iload_n 2, 1) := by decide +kernel
theorem d_Mo_requests_252 : decode M_Mo_requests.2.1 252 = .ok (.ior, 1) := by decide +kernel
theorem d_Mo_requests_253 : decode M_Mo_requests.2.1 253 = .ok (.iastore, 1) := by decide +kernel
theorem d_Mo_requests_254 : decode M_Mo_requests.2.1 254 = .ok (.iload_n 3, 1) := by decide +kernel
theorem d_Mo_requests_255 : decode M_Mo_requests.2.1 255 = .ok (.ireturn, 1) := by decide +kernel
theorem d_Mo_missing_0 : decode M_Mo_missing.2.1 0 = .ok (.iconst 1, 1) := by decide +kernel
theorem d_Mo_missing_1 : decode M_Mo_missing.2.1 1 = .ok (.aload_n 0, 1) := by decide +kernel
theorem d_Mo_missing_2 : decode M_Mo_missing.2.1 2 = .ok (.getfield 89, 3) := by decide +kernel
theorem d_Mo_missing_5 : decode M_Mo_missing.2.1 5 = .ok (.bipush 6, 2) := by decide +kernel
theorem d_Mo_missing_7 : decode M_Mo_missing.2.1 7 = .ok (.iload_n 1, 1) := by decide +kernel
theorem d_Mo_missing_8 : decode M_Mo_missing.2.1 8 = .ok (.imul, 1) := by decide +kernel
theorem d_Mo_missing_9 : decode M_Mo_missing.2.1 9 = .ok (.iload_n 2, 1) := by decide +kernel
theorem d_Mo_missing_10 : decode M_Mo_missing.2.1 10 = .ok (.iadd, 1) := by decide +kernel
theorem d_Mo_missing_11 : decode M_Mo_missing.2.1 11 = .ok (.iaload, 1) := by decide +kernel
theorem d_Mo_missing_12 : decode M_Mo_missing.2.1 12 = .ok (.ishl, 1) := by decide +kernel
theorem d_Mo_missing_13 : decode M_Mo_missing.2.1 13 = .ok (.iconst 1, 1) := by decide +kernel
theorem d_Mo_missing_14 : decode M_Mo_missing.2.1 14 = .ok (.isub, 1) := by decide +kernel
theorem d_Mo_missing_15 : decode M_Mo_missing.2.1 15 = .ok (.istore_n 3, 1) := by decide +kernel
theorem d_Mo_missing_16 : decode M_Mo_missing.2.1 16 = .ok (.iload_n 3, 1) := by decide +kernel
theorem d_Mo_missing_17 : decode M_Mo_missing.2.1 17 = .ok (.aload_n 0, 1) := by decide +kernel
theorem d_Mo_missing_18 : decode M_Mo_missing.2.1 18 = .ok (.getfield 86, 3) := by decide +kernel
theorem d_Mo_missing_21 : decode M_Mo_missing.2.1 21 = .ok (.bipush 6, 2) := by decide +kernel
theorem d_Mo_missing_23 : decode M_Mo_missing.2.1 23 = .ok (.iload_n 1, 1) := by decide +kernel
theorem d_Mo_missing_24 : decode M_Mo_missing.2.1 24 = .ok (.imul, 1) := by decide +kernel
theorem d_Mo_missing_25 : decode M_Mo_missing.2.1 25 = .ok (.iload_n 2, 1) := by decide +kernel
theorem d_Mo_missing_26 : decode M_Mo_missing.2.1 26 = .ok (.iadd, 1) := by decide +kernel
theorem d_Mo_missing_27 : decode M_Mo_missing.2.1 27 = .ok (.iaload, 1) := by decide +kernel
theorem d_Mo_missing_28 : decode M_Mo_missing.2.1 28 = .ok (.iconst (-1), 1) := by decide +kernel
theorem d_Mo_missing_29 : decode M_Mo_missing.2.1 29 = .ok (.ixor, 1) := by decide +kernel
theorem d_Mo_missing_30 : decode M_Mo_missing.2.1 30 = .ok (.iand, 1) := by decide +kernel
theorem d_Mo_missing_31 : decode M_Mo_missing.2.1 31 = .ok (.ireturn, 1) := by decide +kernel
theorem d_Mo_have_0 : decode M_Mo_have.2.1 0 = .ok (.aload_n 0, 1) := by decide +kernel
theorem d_Mo_have_1 : decode M_Mo_have.2.1 1 = .ok (.iload_n 1, 1) := by decide +kernel
theorem d_Mo_have_2 : decode M_Mo_have.2.1 2 = .ok (.invokevirtual 194, 3) := by decide +kernel
theorem d_Mo_have_5 : decode M_Mo_have.2.1 5 = .ok (.ifCond .eq 24, 3) := by decide +kernel
theorem d_Mo_have_8 : decode M_Mo_have.2.1 8 = .ok (.iload_n 2, 1) := by decide +kernel
theorem d_Mo_have_9 : decode M_Mo_have.2.1 9 = .ok (.invokestatic 99, 3) := by decide +kernel
theorem d_Mo_have_12 : decode M_Mo_have.2.1 12 = .ok (.ifCond .eq 17, 3) := by decide +kernel
theorem d_Mo_have_15 : decode M_Mo_have.2.1 15 = .ok (.aload_n 0, 1) := by decide +kernel
theorem d_Mo_have_16 : decode M_Mo_have.2.1 16 = .ok (.getfield 86, 3) := by decide +kernel
theorem d_Mo_have_19 : decode M_Mo_have.2.1 19 = .ok (.bipush 6, 2) := by decide +kernel
theorem d_Mo_have_21 : decode M_Mo_have.2.1 21 = .ok (.iload_n 1, 1) := by decide +kernel
theorem d_Mo_have_22 : decode M_Mo_have.2.1 22 = .ok (.imul, 1) := by decide +kernel
theorem d_Mo_have_23 : decode M_Mo_have.2.1 23 = .ok (.iload_n 2, 1) := by decide +kernel
theorem d_Mo_have_24 : decode M_Mo_have.2.1 24 = .ok (.iadd, 1) := by decide +kernel
theorem d_Mo_have_25 : decode M_Mo_have.2.1 25 = .ok (.iaload, 1) := by decide +kernel
theorem d_Mo_have_26 : decode M_Mo_have.2.1 26 = .ok (.goto 4, 3) := by decide +kernel
theorem d_Mo_have_29 : decode M_Mo_have.2.1 29 = .ok (.iconst (-1), 1) := by decide +kernel
theorem d_Mo_have_30 : decode M_Mo_have.2.1 30 = .ok (.ireturn, 1) := by decide +kernel
