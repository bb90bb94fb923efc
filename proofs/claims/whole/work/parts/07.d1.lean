/-! decode rows, as printed -/
theorem dX9_cutAt_4 : decode cX9_cutAt 4 = .ok (.iload_n 1, 1) := by decide +kernel
theorem dX9_cutAt_5 : decode cX9_cutAt 5 = .ok (.bipush 10, 2) := by decide +kernel
theorem dX9_cutAt_7 : decode cX9_cutAt 7 = .ok (.if_icmp .le 5, 3) := by decide +kernel
theorem dX9_cutAt_10 : decode cX9_cutAt 10 = .ok (.iconst 0, 1) := by decide +kernel
theorem dX9_cutAt_11 : decode cX9_cutAt 11 = .ok (.ireturn, 1) := by decide +kernel
theorem dX9_cutAt_12 : decode cX9_cutAt 12 = .ok (.aload_n 0, 1) := by decide +kernel
theorem dX9_cutAt_13 : decode cX9_cutAt 13 = .ok (.getfield 61, 3) := by decide +kernel
theorem dX9_cutAt_16 : decode cX9_cutAt 16 = .ok (.iload_n 1, 1) := by decide +kernel
theorem dX9_cutAt_17 : decode cX9_cutAt 17 = .ok (.putfield 150, 3) := by decide +kernel
theorem dX9_cutAt_20 : decode cX9_cutAt 20 = .ok (.iconst 1, 1) := by decide +kernel
theorem dX9_cutAt_21 : decode cX9_cutAt 21 = .ok (.ireturn, 1) := by decide +kernel
theorem dX9_poll_0 : decode cX9_poll 0 = .ok (.aload_n 0, 1) := by decide +kernel
theorem dX9_poll_1 : decode cX9_poll 1 = .ok (.getfield 61, 3) := by decide +kernel
theorem dX9_poll_4 : decode cX9_poll 4 = .ok (.invokevirtual 153, 3) := by decide +kernel
theorem dX9_poll_7 : decode cX9_poll 7 = .ok (.aload_n 0, 1) := by decide +kernel
theorem dX9_poll_8 : decode cX9_poll 8 = .ok (.getfield 82, 3) := by decide +kernel
theorem dX9_poll_11 : decode cX9_poll 11 = .ok (.getfield 156, 3) := by decide +kernel
theorem dX9_poll_14 : decode cX9_poll 14 = .ok (.bipush 7, 2) := by decide +kernel
theorem dX9_poll_16 : decode cX9_poll 16 = .ok (.if_icmp .eq 56, 3) := by decide +kernel
theorem dX9_poll_19 : decode cX9_poll 19 = .ok (.aload_n 0, 1) := by decide +kernel
theorem dX9_poll_20 : decode cX9_poll 20 = .ok (.invokevirtual 159, 3) := by decide +kernel
theorem dX9_poll_23 : decode cX9_poll 23 = .ok (.aload_n 0, 1) := by decide +kernel
theorem dX9_poll_24 : decode cX9_poll 24 = .ok (.invokevirtual 162, 3) := by decide +kernel
theorem dX9_poll_27 : decode cX9_poll 27 = .ok (.aload_n 0, 1) := by decide +kernel
theorem dX9_poll_28 : decode cX9_poll 28 = .ok (.invokevirtual 165, 3) := by decide +kernel
theorem dX9_poll_31 : decode cX9_poll 31 = .ok (.aload_n 0, 1) := by decide +kernel
theorem dX9_poll_32 : decode cX9_poll 32 = .ok (.getfield 75, 3) := by decide +kernel
theorem dX9_poll_35 : decode cX9_poll 35 = .ok (.getfield 168, 3) := by decide +kernel
theorem dX9_poll_38 : decode cX9_poll 38 = .ok (.ifCond .ne 18, 3) := by decide +kernel
theorem dX9_poll_41 : decode cX9_poll 41 = .ok (.aload_n 0, 1) := by decide +kernel
theorem dX9_poll_42 : decode cX9_poll 42 = .ok (.invokevirtual 169, 3) := by decide +kernel
theorem dX9_poll_45 : decode cX9_poll 45 = .ok (.ifCond .ne 23, 3) := by decide +kernel
theorem dX9_poll_48 : decode cX9_poll 48 = .ok (.aload_n 0, 1) := by decide +kernel
theorem dX9_poll_49 : decode cX9_poll 49 = .ok (.invokevirtual 173, 3) := by decide +kernel
theorem dX9_poll_52 : decode cX9_poll 52 = .ok (.pop, 1) := by decide +kernel
theorem dX9_poll_53 : decode cX9_poll 53 = .ok (.goto 15, 3) := by decide +kernel
theorem dX9_poll_56 : decode cX9_poll 56 = .ok (.aload_n 0, 1) := by decide +kernel
theorem dX9_poll_57 : decode cX9_poll 57 = .ok (.invokevirtual 173, 3) := by decide +kernel
theorem dX9_poll_60 : decode cX9_poll 60 = .ok (.ifCond .ne 8, 3) := by decide +kernel
theorem dX9_poll_63 : decode cX9_poll 63 = .ok (.aload_n 0, 1) := by decide +kernel
theorem dX9_poll_64 : decode cX9_poll 64 = .ok (.invokevirtual 169, 3) := by decide +kernel
theorem dX9_poll_67 : decode cX9_poll 67 = .ok (.pop, 1) := by decide +kernel
theorem dX9_poll_68 : decode cX9_poll 68 = .ok (.aload_n 0, 1) := by decide +kernel
theorem dX9_poll_69 : decode cX9_poll 69 = .ok (.invokevirtual 165, 3) := by decide +kernel
theorem dX9_poll_72 : decode cX9_poll 72 = .ok (.aload_n 0, 1) := by decide +kernel
theorem dX9_poll_73 : decode cX9_poll 73 = .ok (.getfield 61, 3) := by decide +kernel
theorem dX9_poll_76 : decode cX9_poll 76 = .ok (.getfield 176, 3) := by decide +kernel
theorem dX9_poll_79 : decode cX9_poll 79 = .ok (.istore_n 1, 1) := by decide +kernel
theorem dX9_poll_80 : decode cX9_poll 80 = .ok (.aload_n 0, 1) := by decide +kernel
theorem dX9_poll_81 : decode cX9_poll 81 = .ok (.getfield 61, 3) := by decide +kernel
theorem dX9_poll_84 : decode cX9_poll 84 = .ok (.invokevirtual 179, 3) := by decide +kernel
theorem dX9_poll_87 : decode cX9_poll 87 = .ok (.ifCond .ne 5, 3) := by decide +kernel
theorem dX9_poll_90 : decode cX9_poll 90 = .ok (.iload_n 1, 1) := by decide +kernel
theorem dX9_poll_91 : decode cX9_poll 91 = .ok (.ireturn, 1) := by decide +kernel
theorem dX9_poll_92 : decode cX9_poll 92 = .ok (.aload_n 0, 1) := by decide +kernel
theorem dX9_poll_93 : decode cX9_poll 93 = .ok (.invokevirtual 182, 3) := by decide +kernel
theorem dX9_poll_96 : decode cX9_poll 96 = .ok (.bipush (-2), 2) := by decide +kernel
theorem dX9_poll_98 : decode cX9_poll 98 = .ok (.iload_n 1, 1) := by decide +kernel
theorem dX9_poll_99 : decode cX9_poll 99 = .ok (.isub, 1) := by decide +kernel
theorem dX9_poll_100 : decode cX9_poll 100 = .ok (.ireturn, 1) := by decide +kernel
theorem dX9_show_0 : decode cX9_show 0 = .ok (.iload_n 1, 1) := by decide +kernel
theorem dX9_show_1 : decode cX9_show 1 = .ok (.tableswitch 201 0 13 #[71, 87, 103, 119, 127, 135, 143, 151, 159, 164, 172, 180, 185, 193], 71) := by decide +kernel
theorem dX9_show_72 : decode cX9_show 72 = .ok (.aload_n 0, 1) := by decide +kernel
theorem dX9_show_73 : decode cX9_show 73 = .ok (.getfield 68, 3) := by decide +kernel
theorem dX9_show_76 : decode cX9_show 76 = .ok (.getfield 185, 3) := by decide +kernel
theorem dX9_show_79 : decode cX9_show 79 = .ok (.ifCond .eq 7, 3) := by decide +kernel
theorem dX9_show_82 : decode cX9_show 82 = .ok (.iconst 1, 1) := by decide +kernel
theorem dX9_show_83 : decode cX9_show 83 = .ok (.goto 4, 3) := by decide +kernel
theorem dX9_show_86 : decode cX9_show 86 = .ok (.iconst 0, 1) := by decide +kernel
theorem dX9_show_87 : decode cX9_show 87 = .ok (.ireturn, 1) := by decide +kernel
theorem dX9_show_88 : decode cX9_show 88 = .ok (.aload_n 0, 1) := by decide +kernel
theorem dX9_show_89 : decode cX9_show 89 = .ok (.getfield 68, 3) := by decide +kernel
theorem dX9_show_92 : decode cX9_show 92 = .ok (.getfield 188, 3) := by decide +kernel
theorem dX9_show_95 : decode cX9_show 95 = .ok (.ifCond .eq 7, 3) := by decide +kernel
theorem dX9_show_98 : decode cX9_show 98 = .ok (.iconst 1, 1) := by decide +kernel
theorem dX9_show_99 : decode cX9_show 99 = .ok (.goto 4, 3) := by decide +kernel
theorem dX9_show_102 : decode cX9_show 102 = .ok (.iconst 0, 1) := by decide +kernel
theorem dX9_show_103 : decode cX9_show 103 = .ok (.ireturn, 1) := by decide +kernel
theorem dX9_show_104 : decode cX9_show 104 = .ok (.aload_n 0, 1) := by decide +kernel
theorem dX9_show_105 : decode cX9_show 105 = .ok (.getfield 61, 3) := by decide +kernel
theorem dX9_show_108 : decode cX9_show 108 = .ok (.getfield 191, 3) := by decide +kernel
theorem dX9_show_111 : decode cX9_show 111 = .ok (.ifCond .eq 7, 3) := by decide +kernel
theorem dX9_show_114 : decode cX9_show 114 = .ok (.iconst 1, 1) := by decide +kernel
theorem dX9_show_115 : decode cX9_show 115 = .ok (.goto 4, 3) := by decide +kernel
theorem dX9_show_118 : decode cX9_show 118 = .ok (.iconst 0, 1) := by decide +kernel
theorem dX9_show_119 : decode cX9_show 119 = .ok (.ireturn, 1) := by decide +kernel
theorem dX9_show_120 : decode cX9_show 120 = .ok (.aload_n 0, 1) := by decide +kernel
theorem dX9_show_121 : decode cX9_show 121 = .ok (.getfield 75, 3) := by decide +kernel
theorem dX9_show_124 : decode cX9_show 124 = .ok (.getfield 192, 3) := by decide +kernel
theorem dX9_show_127 : decode cX9_show 127 = .ok (.ireturn, 1) := by decide +kernel
theorem dX9_show_128 : decode cX9_show 128 = .ok (.aload_n 0, 1) := by decide +kernel
theorem dX9_show_129 : decode cX9_show 129 = .ok (.getfield 82, 3) := by decide +kernel
theorem dX9_show_132 : decode cX9_show 132 = .ok (.getfield 195, 3) := by decide +kernel
theorem dX9_show_135 : decode cX9_show 135 = .ok (.ireturn, 1) := by decide +kernel
theorem dX9_show_136 : decode cX9_show 136 = .ok (.aload_n 0, 1) := by decide +kernel
theorem dX9_show_137 : decode cX9_show 137 = .ok (.getfield 75, 3) := by decide +kernel
theorem dX9_show_140 : decode cX9_show 140 = .ok (.getfield 168, 3) := by decide +kernel
theorem dX9_show_143 : decode cX9_show 143 = .ok (.ireturn, 1) := by decide +kernel
theorem dX9_show_144 : decode cX9_show 144 = .ok (.aload_n 0, 1) := by decide +kernel
theorem dX9_show_145 : decode cX9_show 145 = .ok (.getfield 82, 3) := by decide +kernel
theorem dX9_show_148 : decode cX9_show 148 = .ok (.getfield 156, 3) := by decide +kernel
theorem dX9_show_151 : decode cX9_show 151 = .ok (.ireturn, 1) := by decide +kernel
theorem dX9_show_152 : decode cX9_show 152 = .ok (.aload_n 0, 1) := by decide +kernel
theorem dX9_show_153 : decode cX9_show 153 = .ok (.getfield 82, 3) := by decide +kernel
theorem dX9_show_156 : decode cX9_show 156 = .ok (.getfield 198, 3) := by decide +kernel
theorem dX9_show_159 : decode cX9_show 159 = .ok (.ireturn, 1) := by decide +kernel
theorem dX9_show_160 : decode cX9_show 160 = .ok (.aload_n 0, 1) := by decide +kernel
theorem dX9_show_161 : decode cX9_show 161 = .ok (.getfield 147, 3) := by decide +kernel
theorem dX9_show_164 : decode cX9_show 164 = .ok (.ireturn, 1) := by decide +kernel
theorem dX9_show_165 : decode cX9_show 165 = .ok (.aload_n 0, 1) := by decide +kernel
theorem dX9_show_166 : decode cX9_show 166 = .ok (.getfield 61, 3) := by decide +kernel
theorem dX9_show_169 : decode cX9_show 169 = .ok (.getfield 201, 3) := by decide +kernel
theorem dX9_show_172 : decode cX9_show 172 = .ok (.ireturn, 1) := by decide +kernel
theorem dX9_show_173 : decode cX9_show 173 = .ok (.aload_n 0, 1) := by decide +kernel
theorem dX9_show_174 : decode cX9_show 174 = .ok (.getfield 61, 3) := by decide +kernel
theorem dX9_show_177 : decode cX9_show 177 = .ok (.getfield 204, 3) := by decide +kernel
theorem dX9_show_180 : decode cX9_show 180 = .ok (.ireturn, 1) := by decide +kernel
theorem dX9_show_181 : decode cX9_show 181 = .ok (.aload_n 0, 1) := by decide +kernel
theorem dX9_show_182 : decode cX9_show 182 = .ok (.getfield 37, 3) := by decide +kernel
theorem dX9_show_185 : decode cX9_show 185 = .ok (.ireturn, 1) := by decide +kernel
theorem dX9_show_186 : decode cX9_show 186 = .ok (.aload_n 0, 1) := by decide +kernel
theorem dX9_show_187 : decode cX9_show 187 = .ok (.getfield 54, 3) := by decide +kernel
theorem dX9_show_190 : decode cX9_show 190 = .ok (.invokevirtual 207, 3) := by decide +kernel
theorem dX9_show_193 : decode cX9_show 193 = .ok (.ireturn, 1) := by decide +kernel
theorem dX9_show_194 : decode cX9_show 194 = .ok (.aload_n 0, 1) := by decide +kernel
theorem dX9_show_195 : decode cX9_show 195 = .ok (.getfield 54, 3) := by decide +kernel
theorem dX9_show_198 : decode cX9_show 198 = .ok (.getfield 211, 3) := by decide +kernel
theorem dX9_show_201 : decode cX9_show 201 = .ok (.ireturn, 1) := by decide +kernel
theorem dX9_show_202 : decode cX9_show 202 = .ok (.aload_n 0, 1) := by decide +kernel
theorem dX9_show_203 : decode cX9_show 203 = .ok (.iload_n 1, 1) := by decide +kernel
theorem dX9_show_204 : decode cX9_show 204 = .ok (.invokevirtual 212, 3) := by decide +kernel
theorem dX9_show_207 : decode cX9_show 207 = .ok (.ireturn, 1) := by decide +kernel
theorem dX9_record_0 : decode cX9_record 0 = .ok (.aload_n 0, 1) := by decide +kernel
theorem dX9_record_1 : decode cX9_record 1 = .ok (.getfield 61, 3) := by decide +kernel
theorem dX9_record_4 : decode cX9_record 4 = .ok (.iload_n 1, 1) := by decide +kernel
theorem dX9_record_5 : decode cX9_record 5 = .ok (.iload_n 2, 1) := by decide +kernel
theorem dX9_record_6 : decode cX9_record 6 = .ok (.invokevirtual 216, 3) := by decide +kernel
theorem dX9_record_9 : decode cX9_record 9 = .ok (.ireturn, 1) := by decide +kernel
theorem dX9_size_0 : decode cX9_size 0 = .ok (.iload_n 1, 1) := by decide +kernel
theorem dX9_size_1 : decode cX9_size 1 = .ok (.invokestatic 118, 3) := by decide +kernel
theorem dX9_size_4 : decode cX9_size 4 = .ok (.ifCond .eq 27, 3) := by decide +kernel
theorem dX9_size_7 : decode cX9_size 7 = .ok (.iload_n 2, 1) := by decide +kernel
theorem dX9_size_8 : decode cX9_size 8 = .ok (.invokestatic 121, 3) := by decide +kernel
theorem dX9_size_11 : decode cX9_size 11 = .ok (.ifCond .eq 20, 3) := by decide +kernel
theorem dX9_size_14 : decode cX9_size 14 = .ok (.aload_n 0, 1) := by decide +kernel
theorem dX9_size_15 : decode cX9_size 15 = .ok (.getfield 23, 3) := by decide +kernel
theorem dX9_size_18 : decode cX9_size 18 = .ok (.iload_n 1, 1) := by decide +kernel
theorem dX9_size_19 : decode cX9_size 19 = .ok (.aaload, 1) := by decide +kernel
theorem dX9_size_20 : decode cX9_size 20 = .ok (.getfield 220, 3) := by decide +kernel
theorem dX9_size_23 : decode cX9_size 23 = .ok (.iload_n 2, 1) := by decide +kernel
theorem dX9_size_24 : decode cX9_size 24 = .ok (.aaload, 1) := by decide +kernel
theorem dX9_size_25 : decode cX9_size 25 = .ok (.getfield 103, 3) := by decide +kernel
theorem dX9_size_28 : decode cX9_size 28 = .ok (.goto 4, 3) := by decide +kernel
theorem dX9_size_31 : decode cX9_size 31 = .ok (.iconst (-1), 1) := by decide +kernel
theorem dX9_size_32 : decode cX9_size 32 = .ok (.ireturn, 1) := by decide +kernel
theorem dX9_at_0 : decode cX9_at 0 = .ok (.iload_n 1, 1) := by decide +kernel
theorem dX9_at_1 : decode cX9_at 1 = .ok (.invokestatic 118, 3) := by decide +kernel
theorem dX9_at_4 : decode cX9_at 4 = .ok (.ifCond .eq 28, 3) := by decide +kernel
theorem dX9_at_7 : decode cX9_at 7 = .ok (.iload_n 2, 1) := by decide +kernel
theorem dX9_at_8 : decode cX9_at 8 = .ok (.invokestatic 121, 3) := by decide +kernel
theorem dX9_at_11 : decode cX9_at 11 = .ok (.ifCond .eq 21, 3) := by decide +kernel
theorem dX9_at_14 : decode cX9_at 14 = .ok (.aload_n 0, 1) := by decide +kernel
theorem dX9_at_15 : decode cX9_at 15 = .ok (.getfield 23, 3) := by decide +kernel
theorem dX9_at_18 : decode cX9_at 18 = .ok (.iload_n 1, 1) := by decide +kernel
theorem dX9_at_19 : decode cX9_at 19 = .ok (.aaload, 1) := by decide +kernel
theorem dX9_at_20 : decode cX9_at 20 = .ok (.getfield 220, 3) := by decide +kernel
theorem dX9_at_23 : decode cX9_at 23 = .ok (.iload_n 2, 1) := by decide +kernel
theorem dX9_at_24 : decode cX9_at 24 = .ok (.aaload, 1) := by decide +kernel
theorem dX9_at_25 : decode cX9_at 25 = .ok (.iload_n 3, 1) := by decide +kernel
theorem dX9_at_26 : decode cX9_at 26 = .ok (.invokevirtual 224, 3) := by decide +kernel
theorem dX9_at_29 : decode cX9_at 29 = .ok (.goto 4, 3) := by decide +kernel
theorem dX9_at_32 : decode cX9_at 32 = .ok (.iconst (-1), 1) := by decide +kernel
theorem dX9_at_33 : decode cX9_at 33 = .ok (.ireturn, 1) := by decide +kernel
theorem dX9_diskAt_0 : decode cX9_diskAt 0 = .ok (.aload_n 0, 1) := by decide +kernel
theorem dX9_diskAt_1 : decode cX9_diskAt 1 = .ok (.getfield 139, 3) := by decide +kernel
theorem dX9_diskAt_4 : decode cX9_diskAt 4 = .ok (.ifCond .eq 14, 3) := by decide +kernel
theorem dX9_diskAt_7 : decode cX9_diskAt 7 = .ok (.aload_n 0, 1) := by decide +kernel
theorem dX9_diskAt_8 : decode cX9_diskAt 8 = .ok (.getfield 18, 3) := by decide +kernel
theorem dX9_diskAt_11 : decode cX9_diskAt 11 = .ok (.iload_n 1, 1) := by decide +kernel
theorem dX9_diskAt_12 : decode cX9_diskAt 12 = .ok (.invokevirtual 224, 3) := by decide +kernel
theorem dX9_diskAt_15 : decode cX9_diskAt 15 = .ok (.goto 4, 3) := by decide +kernel
theorem dX9_diskAt_18 : decode cX9_diskAt 18 = .ok (.iconst (-1), 1) := by decide +kernel
theorem dX9_diskAt_19 : decode cX9_diskAt 19 = .ok (.ireturn, 1) := by decide +kernel
theorem dX9_isCard_0 : decode cX9_isCard 0 = .ok (.iload_n 0, 1) := by decide +kernel
theorem dX9_isCard_1 : decode cX9_isCard 1 = .ok (.ifCond .lt 13, 3) := by decide +kernel
theorem dX9_isCard_4 : decode cX9_isCard 4 = .ok (.iload_n 0, 1) := by decide +kernel
theorem dX9_isCard_5 : decode cX9_isCard 5 = .ok (.bipush 16, 2) := by decide +kernel
theorem dX9_isCard_7 : decode cX9_isCard 7 = .ok (.if_icmp .ge 7, 3) := by decide +kernel
theorem dX9_isCard_10 : decode cX9_isCard 10 = .ok (.iconst 1, 1) := by decide +kernel
theorem dX9_isCard_11 : decode cX9_isCard 11 = .ok (.goto 4, 3) := by decide +kernel
theorem dX9_isCard_14 : decode cX9_isCard 14 = .ok (.iconst 0, 1) := by decide +kernel
theorem dX9_isCard_15 : decode cX9_isCard 15 = .ok (.ireturn, 1) := by decide +kernel
theorem dX9_isPlace_0 : decode cX9_isPlace 0 = .ok (.iload_n 0, 1) := by decide +kernel
theorem dX9_isPlace_1 : decode cX9_isPlace 1 = .ok (.ifCond .lt 12, 3) := by decide +kernel
theorem dX9_isPlace_4 : decode cX9_isPlace 4 = .ok (.iload_n 0, 1) := by decide +kernel
theorem dX9_isPlace_5 : decode cX9_isPlace 5 = .ok (.iconst 4, 1) := by decide +kernel
theorem dX9_isPlace_6 : decode cX9_isPlace 6 = .ok (.if_icmp .ge 7, 3) := by decide +kernel
theorem dX9_isPlace_9 : decode cX9_isPlace 9 = .ok (.iconst 1, 1) := by decide +kernel
theorem dX9_isPlace_10 : decode cX9_isPlace 10 = .ok (.goto 4, 3) := by decide +kernel
theorem dX9_isPlace_13 : decode cX9_isPlace 13 = .ok (.iconst 0, 1) := by decide +kernel
theorem dX9_isPlace_14 : decode cX9_isPlace 14 = .ok (.ireturn, 1) := by decide +kernel
theorem dX9_settingShown_0 : decode cX9_settingShown 0 = .ok (.iload_n 1, 1) := by decide +kernel
theorem dX9_settingShown_1 : decode cX9_settingShown 1 = .ok (.bipush 14, 2) := by decide +kernel
theorem dX9_settingShown_3 : decode cX9_settingShown 3 = .ok (.if_icmp .lt 9, 3) := by decide +kernel
theorem dX9_settingShown_6 : decode cX9_settingShown 6 = .ok (.iload_n 1, 1) := by decide +kernel
theorem dX9_settingShown_7 : decode cX9_settingShown 7 = .ok (.bipush 23, 2) := by decide +kernel
theorem dX9_settingShown_9 : decode cX9_settingShown 9 = .ok (.if_icmp .lt 5, 3) := by decide +kernel
theorem dX9_settingShown_12 : decode cX9_settingShown 12 = .ok (.iconst (-1), 1) := by decide +kernel
theorem dX9_settingShown_13 : decode cX9_settingShown 13 = .ok (.ireturn, 1) := by decide +kernel
theorem dX9_settingShown_14 : decode cX9_settingShown 14 = .ok (.aload_n 0, 1) := by decide +kernel
theorem dX9_settingShown_15 : decode cX9_settingShown 15 = .ok (.getfield 40, 3) := by decide +kernel
theorem dX9_settingShown_18 : decode cX9_settingShown 18 = .ok (.iload_n 1, 1) := by decide +kernel
theorem dX9_settingShown_19 : decode cX9_settingShown 19 = .ok (.bipush 14, 2) := by decide +kernel
theorem dX9_settingShown_21 : decode cX9_settingShown 21 = .ok (.isub, 1) := by decide +kernel
theorem dX9_settingShown_22 : decode cX9_settingShown 22 = .ok (.iaload, 1) := by decide +kernel
theorem dX9_settingShown_23 : decode cX9_settingShown 23 = .ok (.ireturn, 1) := by decide +kernel
theorem dX9_write_0 : decode cX9_write 0 = .ok (.aload_n 0, 1) := by decide +kernel
theorem dX9_write_1 : decode cX9_write 1 = .ok (.getfield 61, 3) := by decide +kernel
theorem dX9_write_4 : decode cX9_write 4 = .ok (.aload_n 0, 1) := by decide +kernel
theorem dX9_write_5 : decode cX9_write 5 = .ok (.getfield 147, 3) := by decide +kernel
theorem dX9_write_8 : decode cX9_write 8 = .ok (.iload_n 1, 1) := by decide +kernel
theorem dX9_write_9 : decode cX9_write 9 = .ok (.iload_n 2, 1) := by decide +kernel
theorem dX9_write_10 : decode cX9_write 10 = .ok (.iconst (-1), 1) := by decide +kernel
theorem dX9_write_11 : decode cX9_write 11 = .ok (.iconst 0, 1) := by decide +kernel
theorem dX9_write_12 : decode cX9_write 12 = .ok (.invokevirtual 226, 3) := by decide +kernel
theorem dX9_write_15 : decode cX9_write 15 = .ok (.ireturn, 1) := by decide +kernel
theorem dX9_writeOf_0 : decode cX9_writeOf 0 = .ok (.aload_n 0, 1) := by decide +kernel
theorem dX9_writeOf_1 : decode cX9_writeOf 1 = .ok (.getfield 61, 3) := by decide +kernel
theorem dX9_writeOf_4 : decode cX9_writeOf 4 = .ok (.aload_n 0, 1) := by decide +kernel
theorem dX9_writeOf_5 : decode cX9_writeOf 5 = .ok (.getfield 147, 3) := by decide +kernel
theorem dX9_writeOf_8 : decode cX9_writeOf 8 = .ok (.iload_n 2, 1) := by decide +kernel
theorem dX9_writeOf_9 : decode cX9_writeOf 9 = .ok (.iload_n 3, 1) := by decide +kernel
theorem dX9_writeOf_10 : decode cX9_writeOf 10 = .ok (.aload_n 1, 1) := by decide +kernel
theorem dX9_writeOf_11 : decode cX9_writeOf 11 = .ok (.getfield 230, 3) := by decide +kernel
theorem dX9_writeOf_14 : decode cX9_writeOf 14 = .ok (.aload_n 1, 1) := by decide +kernel
theorem dX9_writeOf_15 : decode cX9_writeOf 15 = .ok (.getfield 235, 3) := by decide +kernel
theorem dX9_writeOf_18 : decode cX9_writeOf 18 = .ok (.invokevirtual 226, 3) := by decide +kernel
theorem dX9_writeOf_21 : decode cX9_writeOf 21 = .ok (.ireturn, 1) := by decide +kernel
theorem dX9_readCards_0 : decode cX9_readCards 0 = .ok (.aload_n 0, 1) := by decide +kernel
theorem dX9_readCards_1 : decode cX9_readCards 1 = .ok (.getfield 75, 3) := by decide +kernel
theorem dX9_readCards_4 : decode cX9_readCards 4 = .ok (.getfield 168, 3) := by decide +kernel
theorem dX9_readCards_7 : decode cX9_readCards 7 = .ok (.ifCond .ne 10, 3) := by decide +kernel
theorem dX9_readCards_10 : decode cX9_readCards 10 = .ok (.aload_n 0, 1) := by decide +kernel
theorem dX9_readCards_11 : decode cX9_readCards 11 = .ok (.getfield 27, 3) := by decide +kernel
theorem dX9_readCards_14 : decode cX9_readCards 14 = .ok (.goto 10, 3) := by decide +kernel
theorem dX9_readCards_17 : decode cX9_readCards 17 = .ok (.aload_n 0, 1) := by decide +kernel
theorem dX9_readCards_18 : decode cX9_readCards 18 = .ok (.getfield 75, 3) := by decide +kernel
theorem dX9_readCards_21 : decode cX9_readCards 21 = .ok (.getfield 238, 3) := by decide +kernel
theorem dX9_readCards_24 : decode cX9_readCards 24 = .ok (.istore_n 1, 1) := by decide +kernel
theorem dX9_readCards_25 : decode cX9_readCards 25 = .ok (.aload_n 0, 1) := by decide +kernel
theorem dX9_readCards_26 : decode cX9_readCards 26 = .ok (.getfield 75, 3) := by decide +kernel
theorem dX9_readCards_29 : decode cX9_readCards 29 = .ok (.getfield 241, 3) := by decide +kernel
theorem dX9_readCards_32 : decode cX9_readCards 32 = .ok (.iload_n 1, 1) := by decide +kernel
theorem dX9_readCards_33 : decode cX9_readCards 33 = .ok (.iload_n 1, 1) := by decide +kernel
theorem dX9_readCards_34 : decode cX9_readCards 34 = .ok (.invokestatic 118, 3) := by decide +kernel
theorem dX9_readCards_37 : decode cX9_readCards 37 = .ok (.ifCond .eq 12, 3) := by decide +kernel
theorem dX9_readCards_40 : decode cX9_readCards 40 = .ok (.aload_n 0, 1) := by decide +kernel
theorem dX9_readCards_41 : decode cX9_readCards 41 = .ok (.getfield 23, 3) := by decide +kernel
theorem dX9_readCards_44 : decode cX9_readCards 44 = .ok (.iload_n 1, 1) := by decide +kernel
theorem dX9_readCards_45 : decode cX9_readCards 45 = .ok (.aaload, 1) := by decide +kernel
theorem dX9_readCards_46 : decode cX9_readCards 46 = .ok (.goto 4, 3) := by decide +kernel
theorem dX9_readCards_49 : decode cX9_readCards 49 = .ok (.aconst_null, 1) := by decide +kernel
theorem dX9_readCards_50 : decode cX9_readCards 50 = .ok (.aload_n 0, 1) := by decide +kernel
theorem dX9_readCards_51 : decode cX9_readCards 51 = .ok (.getfield 54, 3) := by decide +kernel
theorem dX9_readCards_54 : decode cX9_readCards 54 = .ok (.aload_n 0, 1) := by decide +kernel
theorem dX9_readCards_55 : decode cX9_readCards 55 = .ok (.getfield 47, 3) := by decide +kernel
theorem dX9_readCards_58 : decode cX9_readCards 58 = .ok (.aload_n 0, 1) := by decide +kernel
theorem dX9_readCards_59 : decode cX9_readCards 59 = .ok (.getfield 147, 3) := by decide +kernel
theorem dX9_readCards_62 : decode cX9_readCards 62 = .ok (.invokevirtual 245, 3) := by decide +kernel
theorem dX9_readCards_65 : decode cX9_readCards 65 = .ok (.aload_n 0, 1) := by decide +kernel
theorem dX9_readCards_66 : decode cX9_readCards 66 = .ok (.getfield 82, 3) := by decide +kernel
theorem dX9_readCards_69 : decode cX9_readCards 69 = .ok (.getfield 156, 3) := by decide +kernel
theorem dX9_readCards_72 : decode cX9_readCards 72 = .ok (.iconst 2, 1) := by decide +kernel
theorem dX9_readCards_73 : decode cX9_readCards 73 = .ok (.if_icmp .ne 18, 3) := by decide +kernel
theorem dX9_readCards_76 : decode cX9_readCards 76 = .ok (.aload_n 0, 1) := by decide +kernel
theorem dX9_readCards_77 : decode cX9_readCards 77 = .ok (.getfield 82, 3) := by decide +kernel
theorem dX9_readCards_80 : decode cX9_readCards 80 = .ok (.getfield 198, 3) := by decide +kernel
theorem dX9_readCards_83 : decode cX9_readCards 83 = .ok (.iconst (-1), 1) := by decide +kernel
theorem dX9_readCards_84 : decode cX9_readCards 84 = .ok (.if_icmp .ne 7, 3) := by decide +kernel
theorem dX9_readCards_87 : decode cX9_readCards 87 = .ok (.iconst 1, 1) := by decide +kernel
theorem dX9_readCards_88 : decode cX9_readCards 88 = .ok (.goto 4, 3) := by decide +kernel
theorem dX9_readCards_91 : decode cX9_readCards 91 = .ok (.iconst 0, 1) := by decide +kernel
theorem dX9_readCards_92 : decode cX9_readCards 92 = .ok (.istore_n 2, 1) := by decide +kernel
theorem dX9_readCards_93 : decode cX9_readCards 93 = .ok (.iload_n 2, 1) := by decide +kernel
theorem dX9_readCards_94 : decode cX9_readCards 94 = .ok (.ifCond .eq 10, 3) := by decide +kernel
theorem dX9_readCards_97 : decode cX9_readCards 97 = .ok (.aload_n 0, 1) := by decide +kernel
theorem dX9_readCards_98 : decode cX9_readCards 98 = .ok (.getfield 31, 3) := by decide +kernel
theorem dX9_readCards_101 : decode cX9_readCards 101 = .ok (.goto 10, 3) := by decide +kernel
theorem dX9_readCards_104 : decode cX9_readCards 104 = .ok (.aload_n 0, 1) := by decide +kernel
theorem dX9_readCards_105 : decode cX9_readCards 105 = .ok (.getfield 82, 3) := by decide +kernel
theorem dX9_readCards_108 : decode cX9_readCards 108 = .ok (.getfield 249, 3) := by decide +kernel
theorem dX9_readCards_111 : decode cX9_readCards 111 = .ok (.istore_n 3, 1) := by decide +kernel
theorem dX9_readCards_112 : decode cX9_readCards 112 = .ok (.aload_n 0, 1) := by decide +kernel
theorem dX9_readCards_113 : decode cX9_readCards 113 = .ok (.getfield 82, 3) := by decide +kernel
theorem dX9_readCards_116 : decode cX9_readCards 116 = .ok (.getfield 250, 3) := by decide +kernel
theorem dX9_readCards_119 : decode cX9_readCards 119 = .ok (.iload_n 3, 1) := by decide +kernel
theorem dX9_readCards_120 : decode cX9_readCards 120 = .ok (.iload_n 3, 1) := by decide +kernel
theorem dX9_readCards_121 : decode cX9_readCards 121 = .ok (.invokestatic 118, 3) := by decide +kernel
theorem dX9_readCards_124 : decode cX9_readCards 124 = .ok (.ifCond .eq 12, 3) := by decide +kernel
theorem dX9_readCards_127 : decode cX9_readCards 127 = .ok (.aload_n 0, 1) := by decide +kernel
theorem dX9_readCards_128 : decode cX9_readCards 128 = .ok (.getfield 23, 3) := by decide +kernel
theorem dX9_readCards_131 : decode cX9_readCards 131 = .ok (.iload_n 3, 1) := by decide +kernel
theorem dX9_readCards_132 : decode cX9_readCards 132 = .ok (.aaload, 1) := by decide +kernel
theorem dX9_readCards_133 : decode cX9_readCards 133 = .ok (.goto 4, 3) := by decide +kernel
theorem dX9_readCards_136 : decode cX9_readCards 136 = .ok (.aconst_null, 1) := by decide +kernel
theorem dX9_readCards_137 : decode cX9_readCards 137 = .ok (.aload_n 0, 1) := by decide +kernel
theorem dX9_readCards_138 : decode cX9_readCards 138 = .ok (.getfield 54, 3) := by decide +kernel
theorem dX9_readCards_141 : decode cX9_readCards 141 = .ok (.aload_n 0, 1) := by decide +kernel
theorem dX9_readCards_142 : decode cX9_readCards 142 = .ok (.getfield 47, 3) := by decide +kernel
theorem dX9_readCards_145 : decode cX9_readCards 145 = .ok (.aload_n 0, 1) := by decide +kernel
theorem dX9_readCards_146 : decode cX9_readCards 146 = .ok (.getfield 147, 3) := by decide +kernel
theorem dX9_readCards_149 : decode cX9_readCards 149 = .ok (.invokevirtual 245, 3) := by decide +kernel
theorem dX9_readCards_152 : decode cX9_readCards 152 = .ok (.return_, 1) := by decide +kernel
theorem dX9_seeDoor_0 : decode cX9_seeDoor 0 = .ok (.aload_n 0, 1) := by decide +kernel
theorem dX9_seeDoor_1 : decode cX9_seeDoor 1 = .ok (.getfield 133, 3) := by decide +kernel
theorem dX9_seeDoor_4 : decode cX9_seeDoor 4 = .ok (.aload_n 0, 1) := by decide +kernel
theorem dX9_seeDoor_5 : decode cX9_seeDoor 5 = .ok (.getfield 251, 3) := by decide +kernel
theorem dX9_seeDoor_8 : decode cX9_seeDoor 8 = .ok (.if_icmp .eq 23, 3) := by decide +kernel
theorem dX9_seeDoor_11 : decode cX9_seeDoor 11 = .ok (.aload_n 0, 1) := by decide +kernel
theorem dX9_seeDoor_12 : decode cX9_seeDoor 12 = .ok (.aload_n 0, 1) := by decide +kernel
theorem dX9_seeDoor_13 : decode cX9_seeDoor 13 = .ok (.getfield 133, 3) := by decide +kernel
theorem dX9_seeDoor_16 : decode cX9_seeDoor 16 = .ok (.ifCond .eq 8, 3) := by decide +kernel
theorem dX9_seeDoor_19 : decode cX9_seeDoor 19 = .ok (.bipush 20, 2) := by decide +kernel
theorem dX9_seeDoor_21 : decode cX9_seeDoor 21 = .ok (.goto 5, 3) := by decide +kernel
theorem dX9_seeDoor_24 : decode cX9_seeDoor 24 = .ok (.bipush 21, 2) := by decide +kernel
theorem dX9_seeDoor_26 : decode cX9_seeDoor 26 = .ok (.iconst 0, 1) := by decide +kernel
theorem dX9_seeDoor_27 : decode cX9_seeDoor 27 = .ok (.invokevirtual 254, 3) := by decide +kernel
theorem dX9_seeDoor_30 : decode cX9_seeDoor 30 = .ok (.pop, 1) := by decide +kernel
theorem dX9_seeDoor_31 : decode cX9_seeDoor 31 = .ok (.aload_n 0, 1) := by decide +kernel
theorem dX9_seeDoor_32 : decode cX9_seeDoor 32 = .ok (.aload_n 0, 1) := by decide +kernel
theorem dX9_seeDoor_33 : decode cX9_seeDoor 33 = .ok (.getfield 133, 3) := by decide +kernel
theorem dX9_seeDoor_36 : decode cX9_seeDoor 36 = .ok (.putfield 251, 3) := by decide +kernel
theorem dX9_seeDoor_39 : decode cX9_seeDoor 39 = .ok (.return_, 1) := by decide +kernel
theorem dX9_watchLatch_0 : decode cX9_watchLatch 0 = .ok (.aload_n 0, 1) := by decide +kernel
theorem dX9_watchLatch_1 : decode cX9_watchLatch 1 = .ok (.getfield 68, 3) := by decide +kernel
theorem dX9_watchLatch_4 : decode cX9_watchLatch 4 = .ok (.getfield 185, 3) := by decide +kernel
theorem dX9_watchLatch_7 : decode cX9_watchLatch 7 = .ok (.ifCond .eq 55, 3) := by decide +kernel
theorem dX9_watchLatch_10 : decode cX9_watchLatch 10 = .ok (.aload_n 0, 1) := by decide +kernel
theorem dX9_watchLatch_11 : decode cX9_watchLatch 11 = .ok (.getfield 147, 3) := by decide +kernel
theorem dX9_watchLatch_14 : decode cX9_watchLatch 14 = .ok (.aload_n 0, 1) := by decide +kernel
theorem dX9_watchLatch_15 : decode cX9_watchLatch 15 = .ok (.getfield 68, 3) := by decide +kernel
theorem dX9_watchLatch_18 : decode cX9_watchLatch 18 = .ok (.getfield 257, 3) := by decide +kernel
theorem dX9_watchLatch_21 : decode cX9_watchLatch 21 = .ok (.if_icmp .lt 41, 3) := by decide +kernel
theorem dX9_watchLatch_24 : decode cX9_watchLatch 24 = .ok (.aload_n 0, 1) := by decide +kernel
theorem dX9_watchLatch_25 : decode cX9_watchLatch 25 = .ok (.bipush 23, 2) := by decide +kernel
theorem dX9_watchLatch_27 : decode cX9_watchLatch 27 = .ok (.iconst 0, 1) := by decide +kernel
theorem dX9_watchLatch_28 : decode cX9_watchLatch 28 = .ok (.invokevirtual 254, 3) := by decide +kernel
theorem dX9_watchLatch_31 : decode cX9_watchLatch 31 = .ok (.ifCond .eq 31, 3) := by decide +kernel
theorem dX9_watchLatch_34 : decode cX9_watchLatch 34 = .ok (.aload_n 0, 1) := by decide +kernel
theorem dX9_watchLatch_35 : decode cX9_watchLatch 35 = .ok (.getfield 68, 3) := by decide +kernel
theorem dX9_watchLatch_38 : decode cX9_watchLatch 38 = .ok (.iconst 0, 1) := by decide +kernel
theorem dX9_watchLatch_39 : decode cX9_watchLatch 39 = .ok (.putfield 185, 3) := by decide +kernel
theorem dX9_watchLatch_42 : decode cX9_watchLatch 42 = .ok (.aload_n 0, 1) := by decide +kernel
theorem dX9_watchLatch_43 : decode cX9_watchLatch 43 = .ok (.getfield 75, 3) := by decide +kernel
theorem dX9_watchLatch_46 : decode cX9_watchLatch 46 = .ok (.getfield 192, 3) := by decide +kernel
theorem dX9_watchLatch_49 : decode cX9_watchLatch 49 = .ok (.bipush 7, 2) := by decide +kernel
theorem dX9_watchLatch_51 : decode cX9_watchLatch 51 = .ok (.if_icmp .ne 11, 3) := by decide +kernel
theorem dX9_watchLatch_54 : decode cX9_watchLatch 54 = .ok (.aload_n 0, 1) := by decide +kernel
theorem dX9_watchLatch_55 : decode cX9_watchLatch 55 = .ok (.getfield 75, 3) := by decide +kernel
theorem dX9_watchLatch_58 : decode cX9_watchLatch 58 = .ok (.iconst 1, 1) := by decide +kernel
theorem dX9_watchLatch_59 : decode cX9_watchLatch 59 = .ok (.putfield 192, 3) := by decide +kernel
theorem dX9_watchLatch_62 : decode cX9_watchLatch 62 = .ok (.aload_n 0, 1) := by decide +kernel
theorem dX9_watchLatch_63 : decode cX9_watchLatch 63 = .ok (.getfield 133, 3) := by decide +kernel
theorem dX9_watchLatch_66 : decode cX9_watchLatch 66 = .ok (.ifCond .eq 31, 3) := by decide +kernel
theorem dX9_watchLatch_69 : decode cX9_watchLatch 69 = .ok (.aload_n 0, 1) := by decide +kernel
theorem dX9_watchLatch_70 : decode cX9_watchLatch 70 = .ok (.getfield 68, 3) := by decide +kernel
theorem dX9_watchLatch_73 : decode cX9_watchLatch 73 = .ok (.getfield 185, 3) := by decide +kernel
theorem dX9_watchLatch_76 : decode cX9_watchLatch 76 = .ok (.ifCond .ne 21, 3) := by decide +kernel
theorem dX9_watchLatch_79 : decode cX9_watchLatch 79 = .ok (.aload_n 0, 1) := by decide +kernel
theorem dX9_watchLatch_80 : decode cX9_watchLatch 80 = .ok (.getfield 147, 3) := by decide +kernel
theorem dX9_watchLatch_83 : decode cX9_watchLatch 83 = .ok (.aload_n 0, 1) := by decide +kernel
theorem dX9_watchLatch_84 : decode cX9_watchLatch 84 = .ok (.getfield 68, 3) := by decide +kernel
theorem dX9_watchLatch_87 : decode cX9_watchLatch 87 = .ok (.getfield 260, 3) := by decide +kernel
theorem dX9_watchLatch_90 : decode cX9_watchLatch 90 = .ok (.if_icmp .lt 7, 3) := by decide +kernel
theorem dX9_watchLatch_93 : decode cX9_watchLatch 93 = .ok (.iconst 1, 1) := by decide +kernel
theorem dX9_watchLatch_94 : decode cX9_watchLatch 94 = .ok (.goto 4, 3) := by decide +kernel
theorem dX9_watchLatch_97 : decode cX9_watchLatch 97 = .ok (.iconst 0, 1) := by decide +kernel
theorem dX9_watchLatch_98 : decode cX9_watchLatch 98 = .ok (.istore_n 1, 1) := by decide +kernel
theorem dX9_watchLatch_99 : decode cX9_watchLatch 99 = .ok (.iload_n 1, 1) := by decide +kernel
theorem dX9_watchLatch_100 : decode cX9_watchLatch 100 = .ok (.ifCond .eq 34, 3) := by decide +kernel
theorem dX9_watchLatch_103 : decode cX9_watchLatch 103 = .ok (.aload_n 0, 1) := by decide +kernel
theorem dX9_watchLatch_104 : decode cX9_watchLatch 104 = .ok (.getfield 68, 3) := by decide +kernel
theorem dX9_watchLatch_107 : decode cX9_watchLatch 107 = .ok (.getfield 188, 3) := by decide +kernel
theorem dX9_watchLatch_110 : decode cX9_watchLatch 110 = .ok (.ifCond .ne 24, 3) := by decide +kernel
theorem dX9_watchLatch_113 : decode cX9_watchLatch 113 = .ok (.aload_n 0, 1) := by decide +kernel
theorem dX9_watchLatch_114 : decode cX9_watchLatch 114 = .ok (.bipush 24, 2) := by decide +kernel
theorem dX9_watchLatch_116 : decode cX9_watchLatch 116 = .ok (.iconst 2, 1) := by decide +kernel
theorem dX9_watchLatch_117 : decode cX9_watchLatch 117 = .ok (.invokevirtual 254, 3) := by decide +kernel
theorem dX9_watchLatch_120 : decode cX9_watchLatch 120 = .ok (.ifCond .eq 14, 3) := by decide +kernel
theorem dX9_watchLatch_123 : decode cX9_watchLatch 123 = .ok (.aload_n 0, 1) := by decide +kernel
theorem dX9_watchLatch_124 : decode cX9_watchLatch 124 = .ok (.getfield 68, 3) := by decide +kernel
theorem dX9_watchLatch_127 : decode cX9_watchLatch 127 = .ok (.iconst 1, 1) := by decide +kernel
theorem dX9_watchLatch_128 : decode cX9_watchLatch 128 = .ok (.putfield 188, 3) := by decide +kernel
theorem dX9_watchLatch_131 : decode cX9_watchLatch 131 = .ok (.goto 35, 3) := by decide +kernel
theorem dX9_watchLatch_134 : decode cX9_watchLatch 134 = .ok (.iload_n 1, 1) := by decide +kernel
theorem dX9_watchLatch_135 : decode cX9_watchLatch 135 = .ok (.ifCond .ne 31, 3) := by decide +kernel
theorem dX9_watchLatch_138 : decode cX9_watchLatch 138 = .ok (.aload_n 0, 1) := by decide +kernel
theorem dX9_watchLatch_139 : decode cX9_watchLatch 139 = .ok (.getfield 68, 3) := by decide +kernel
theorem dX9_watchLatch_142 : decode cX9_watchLatch 142 = .ok (.getfield 188, 3) := by decide +kernel
theorem dX9_watchLatch_145 : decode cX9_watchLatch 145 = .ok (.ifCond .eq 21, 3) := by decide +kernel
theorem dX9_watchLatch_148 : decode cX9_watchLatch 148 = .ok (.aload_n 0, 1) := by decide +kernel
theorem dX9_watchLatch_149 : decode cX9_watchLatch 149 = .ok (.bipush 25, 2) := by decide +kernel
theorem dX9_watchLatch_151 : decode cX9_watchLatch 151 = .ok (.iconst 0, 1) := by decide +kernel
theorem dX9_watchLatch_152 : decode cX9_watchLatch 152 = .ok (.invokevirtual 254, 3) := by decide +kernel
theorem dX9_watchLatch_155 : decode cX9_watchLatch 155 = .ok (.ifCond .eq 11, 3) := by decide +kernel
theorem dX9_watchLatch_158 : decode cX9_watchLatch 158 = .ok (.aload_n 0, 1) := by decide +kernel
theorem dX9_watchLatch_159 : decode cX9_watchLatch 159 = .ok (.getfield 68, 3) := by decide +kernel
theorem dX9_watchLatch_162 : decode cX9_watchLatch 162 = .ok (.iconst 0, 1) := by decide +kernel
theorem dX9_watchLatch_163 : decode cX9_watchLatch 163 = .ok (.putfield 188, 3) := by decide +kernel
theorem dX9_watchLatch_166 : decode cX9_watchLatch 166 = .ok (.return_, 1) := by decide +kernel
theorem dX9_openLatch_0 : decode cX9_openLatch 0 = .ok (.aload_n 0, 1) := by decide +kernel
theorem dX9_openLatch_1 : decode cX9_openLatch 1 = .ok (.getfield 68, 3) := by decide +kernel
theorem dX9_openLatch_4 : decode cX9_openLatch 4 = .ok (.iconst 1, 1) := by decide +kernel
theorem dX9_openLatch_5 : decode cX9_openLatch 5 = .ok (.putfield 185, 3) := by decide +kernel
theorem dX9_openLatch_8 : decode cX9_openLatch 8 = .ok (.aload_n 0, 1) := by decide +kernel
theorem dX9_openLatch_9 : decode cX9_openLatch 9 = .ok (.getfield 68, 3) := by decide +kernel
theorem dX9_openLatch_12 : decode cX9_openLatch 12 = .ok (.aload_n 0, 1) := by decide +kernel
theorem dX9_openLatch_13 : decode cX9_openLatch 13 = .ok (.getfield 147, 3) := by decide +kernel
theorem dX9_openLatch_16 : decode cX9_openLatch 16 = .ok (.aload_n 0, 1) := by decide +kernel
theorem dX9_openLatch_17 : decode cX9_openLatch 17 = .ok (.getfield 40, 3) := by decide +kernel
theorem dX9_openLatch_20 : decode cX9_openLatch 20 = .ok (.iconst 0, 1) := by decide +kernel
theorem dX9_openLatch_21 : decode cX9_openLatch 21 = .ok (.iaload, 1) := by decide +kernel
theorem dX9_openLatch_22 : decode cX9_openLatch 22 = .ok (.iadd, 1) := by decide +kernel
theorem dX9_openLatch_23 : decode cX9_openLatch 23 = .ok (.putfield 257, 3) := by decide +kernel
theorem dX9_openLatch_26 : decode cX9_openLatch 26 = .ok (.aload_n 0, 1) := by decide +kernel
theorem dX9_openLatch_27 : decode cX9_openLatch 27 = .ok (.getfield 68, 3) := by decide +kernel
theorem dX9_openLatch_30 : decode cX9_openLatch 30 = .ok (.aload_n 0, 1) := by decide +kernel
theorem dX9_openLatch_31 : decode cX9_openLatch 31 = .ok (.getfield 68, 3) := by decide +kernel
theorem dX9_openLatch_34 : decode cX9_openLatch 34 = .ok (.getfield 257, 3) := by decide +kernel
theorem dX9_openLatch_37 : decode cX9_openLatch 37 = .ok (.aload_n 0, 1) := by decide +kernel
theorem dX9_openLatch_38 : decode cX9_openLatch 38 = .ok (.getfield 40, 3) := by decide +kernel
theorem dX9_openLatch_41 : decode cX9_openLatch 41 = .ok (.iconst 1, 1) := by decide +kernel
theorem dX9_openLatch_42 : decode cX9_openLatch 42 = .ok (.iaload, 1) := by decide +kernel
theorem dX9_openLatch_43 : decode cX9_openLatch 43 = .ok (.iadd, 1) := by decide +kernel
theorem dX9_openLatch_44 : decode cX9_openLatch 44 = .ok (.putfield 260, 3) := by decide +kernel
theorem dX9_openLatch_47 : decode cX9_openLatch 47 = .ok (.aload_n 0, 1) := by decide +kernel
theorem dX9_openLatch_48 : decode cX9_openLatch 48 = .ok (.getfield 75, 3) := by decide +kernel
theorem dX9_openLatch_51 : decode cX9_openLatch 51 = .ok (.bipush 7, 2) := by decide +kernel
theorem dX9_openLatch_53 : decode cX9_openLatch 53 = .ok (.putfield 192, 3) := by decide +kernel
theorem dX9_openLatch_56 : decode cX9_openLatch 56 = .ok (.return_, 1) := by decide +kernel
theorem dX9_actOutside_0 : decode cX9_actOutside 0 = .ok (.aload_n 0, 1) := by decide +kernel
theorem dX9_actOutside_1 : decode cX9_actOutside 1 = .ok (.getfield 61, 3) := by decide +kernel
theorem dX9_actOutside_4 : decode cX9_actOutside 4 = .ok (.getfield 263, 3) := by decide +kernel
theorem dX9_actOutside_7 : decode cX9_actOutside 7 = .ok (.ifCond .eq 13, 3) := by decide +kernel
theorem dX9_actOutside_10 : decode cX9_actOutside 10 = .ok (.aload_n 0, 1) := by decide +kernel
theorem dX9_actOutside_11 : decode cX9_actOutside 11 = .ok (.getfield 54, 3) := by decide +kernel
theorem dX9_actOutside_14 : decode cX9_actOutside 14 = .ok (.invokevirtual 266, 3) := by decide +kernel
theorem dX9_actOutside_17 : decode cX9_actOutside 17 = .ok (.ifCond .ne 5, 3) := by decide +kernel
theorem dX9_actOutside_20 : decode cX9_actOutside 20 = .ok (.iconst 0, 1) := by decide +kernel
theorem dX9_actOutside_21 : decode cX9_actOutside 21 = .ok (.ireturn, 1) := by decide +kernel
theorem dX9_actOutside_22 : decode cX9_actOutside 22 = .ok (.aload_n 0, 1) := by decide +kernel
theorem dX9_actOutside_23 : decode cX9_actOutside 23 = .ok (.getfield 27, 3) := by decide +kernel
theorem dX9_actOutside_26 : decode cX9_actOutside 26 = .ok (.aload_n 0, 1) := by decide +kernel
theorem dX9_actOutside_27 : decode cX9_actOutside 27 = .ok (.getfield 75, 3) := by decide +kernel
theorem dX9_actOutside_30 : decode cX9_actOutside 30 = .ok (.getfield 238, 3) := by decide +kernel
theorem dX9_actOutside_33 : decode cX9_actOutside 33 = .ok (.if_icmp .ne 7, 3) := by decide +kernel
theorem dX9_actOutside_36 : decode cX9_actOutside 36 = .ok (.iconst 1, 1) := by decide +kernel
theorem dX9_actOutside_37 : decode cX9_actOutside 37 = .ok (.goto 4, 3) := by decide +kernel
theorem dX9_actOutside_40 : decode cX9_actOutside 40 = .ok (.iconst 0, 1) := by decide +kernel
theorem dX9_actOutside_41 : decode cX9_actOutside 41 = .ok (.istore_n 1, 1) := by decide +kernel
theorem dX9_actOutside_42 : decode cX9_actOutside 42 = .ok (.aload_n 0, 1) := by decide +kernel
theorem dX9_actOutside_43 : decode cX9_actOutside 43 = .ok (.getfield 75, 3) := by decide +kernel
theorem dX9_actOutside_46 : decode cX9_actOutside 46 = .ok (.getfield 168, 3) := by decide +kernel
theorem dX9_actOutside_49 : decode cX9_actOutside 49 = .ok (.tableswitch 142 0 7 #[47, 52, 68, 84, 100, 116, 132, 137], 47) := by decide +kernel
theorem dX9_actOutside_96 : decode cX9_actOutside 96 = .ok (.aload_n 0, 1) := by decide +kernel
theorem dX9_actOutside_97 : decode cX9_actOutside 97 = .ok (.invokevirtual 269, 3) := by decide +kernel
theorem dX9_actOutside_100 : decode cX9_actOutside 100 = .ok (.ireturn, 1) := by decide +kernel
theorem dX9_actOutside_101 : decode cX9_actOutside 101 = .ok (.iload_n 1, 1) := by decide +kernel
theorem dX9_actOutside_102 : decode cX9_actOutside 102 = .ok (.ifCond .eq 10, 3) := by decide +kernel
theorem dX9_actOutside_105 : decode cX9_actOutside 105 = .ok (.aload_n 0, 1) := by decide +kernel
theorem dX9_actOutside_106 : decode cX9_actOutside 106 = .ok (.invokevirtual 272, 3) := by decide +kernel
theorem dX9_actOutside_109 : decode cX9_actOutside 109 = .ok (.goto 7, 3) := by decide +kernel
theorem dX9_actOutside_112 : decode cX9_actOutside 112 = .ok (.aload_n 0, 1) := by decide +kernel
theorem dX9_actOutside_113 : decode cX9_actOutside 113 = .ok (.invokevirtual 275, 3) := by decide +kernel
theorem dX9_actOutside_116 : decode cX9_actOutside 116 = .ok (.ireturn, 1) := by decide +kernel
theorem dX9_actOutside_117 : decode cX9_actOutside 117 = .ok (.iload_n 1, 1) := by decide +kernel
theorem dX9_actOutside_118 : decode cX9_actOutside 118 = .ok (.ifCond .eq 10, 3) := by decide +kernel
theorem dX9_actOutside_121 : decode cX9_actOutside 121 = .ok (.aload_n 0, 1) := by decide +kernel
theorem dX9_actOutside_122 : decode cX9_actOutside 122 = .ok (.invokevirtual 278, 3) := by decide +kernel
theorem dX9_actOutside_125 : decode cX9_actOutside 125 = .ok (.goto 7, 3) := by decide +kernel
theorem dX9_actOutside_128 : decode cX9_actOutside 128 = .ok (.aload_n 0, 1) := by decide +kernel
theorem dX9_actOutside_129 : decode cX9_actOutside 129 = .ok (.invokevirtual 275, 3) := by decide +kernel
theorem dX9_actOutside_132 : decode cX9_actOutside 132 = .ok (.ireturn, 1) := by decide +kernel
theorem dX9_actOutside_133 : decode cX9_actOutside 133 = .ok (.iload_n 1, 1) := by decide +kernel
theorem dX9_actOutside_134 : decode cX9_actOutside 134 = .ok (.ifCond .eq 10, 3) := by decide +kernel
theorem dX9_actOutside_137 : decode cX9_actOutside 137 = .ok (.aload_n 0, 1) := by decide +kernel
theorem dX9_actOutside_138 : decode cX9_actOutside 138 = .ok (.invokevirtual 281, 3) := by decide +kernel
theorem dX9_actOutside_141 : decode cX9_actOutside 141 = .ok (.goto 7, 3) := by decide +kernel
theorem dX9_actOutside_144 : decode cX9_actOutside 144 = .ok (.aload_n 0, 1) := by decide +kernel
theorem dX9_actOutside_145 : decode cX9_actOutside 145 = .ok (.invokevirtual 275, 3) := by decide +kernel
theorem dX9_actOutside_148 : decode cX9_actOutside 148 = .ok (.ireturn, 1) := by decide +kernel
theorem dX9_actOutside_149 : decode cX9_actOutside 149 = .ok (.iload_n 1, 1) := by decide +kernel
theorem dX9_actOutside_150 : decode cX9_actOutside 150 = .ok (.ifCond .eq 10, 3) := by decide +kernel
theorem dX9_actOutside_153 : decode cX9_actOutside 153 = .ok (.aload_n 0, 1) := by decide +kernel
theorem dX9_actOutside_154 : decode cX9_actOutside 154 = .ok (.invokevirtual 284, 3) := by decide +kernel
theorem dX9_actOutside_157 : decode cX9_actOutside 157 = .ok (.goto 7, 3) := by decide +kernel
theorem dX9_actOutside_160 : decode cX9_actOutside 160 = .ok (.aload_n 0, 1) := by decide +kernel
theorem dX9_actOutside_161 : decode cX9_actOutside 161 = .ok (.invokevirtual 275, 3) := by decide +kernel
theorem dX9_actOutside_164 : decode cX9_actOutside 164 = .ok (.ireturn, 1) := by decide +kernel
theorem dX9_actOutside_165 : decode cX9_actOutside 165 = .ok (.iload_n 1, 1) := by decide +kernel
theorem dX9_actOutside_166 : decode cX9_actOutside 166 = .ok (.ifCond .eq 10, 3) := by decide +kernel
theorem dX9_actOutside_169 : decode cX9_actOutside 169 = .ok (.aload_n 0, 1) := by decide +kernel
theorem dX9_actOutside_170 : decode cX9_actOutside 170 = .ok (.invokevirtual 287, 3) := by decide +kernel
theorem dX9_actOutside_173 : decode cX9_actOutside 173 = .ok (.goto 7, 3) := by decide +kernel
theorem dX9_actOutside_176 : decode cX9_actOutside 176 = .ok (.aload_n 0, 1) := by decide +kernel
theorem dX9_actOutside_177 : decode cX9_actOutside 177 = .ok (.invokevirtual 275, 3) := by decide +kernel
theorem dX9_actOutside_180 : decode cX9_actOutside 180 = .ok (.ireturn, 1) := by decide +kernel
theorem dX9_actOutside_181 : decode cX9_actOutside 181 = .ok (.aload_n 0, 1) := by decide +kernel
theorem dX9_actOutside_182 : decode cX9_actOutside 182 = .ok (.invokevirtual 290, 3) := by decide +kernel
theorem dX9_actOutside_185 : decode cX9_actOutside 185 = .ok (.ireturn, 1) := by decide +kernel
theorem dX9_actOutside_186 : decode cX9_actOutside 186 = .ok (.aload_n 0, 1) := by decide +kernel
theorem dX9_actOutside_187 : decode cX9_actOutside 187 = .ok (.invokevirtual 293, 3) := by decide +kernel
theorem dX9_actOutside_190 : decode cX9_actOutside 190 = .ok (.ireturn, 1) := by decide +kernel
theorem dX9_actOutside_191 : decode cX9_actOutside 191 = .ok (.iconst 0, 1) := by decide +kernel
theorem dX9_actOutside_192 : decode cX9_actOutside 192 = .ok (.ireturn, 1) := by decide +kernel
theorem dX9_stepOutside_0 : decode cX9_stepOutside 0 = .ok (.aload_n 0, 1) := by decide +kernel
theorem dX9_stepOutside_1 : decode cX9_stepOutside 1 = .ok (.getfield 75, 3) := by decide +kernel
theorem dX9_stepOutside_4 : decode cX9_stepOutside 4 = .ok (.getfield 241, 3) := by decide +kernel
theorem dX9_stepOutside_7 : decode cX9_stepOutside 7 = .ok (.astore 5, 2) := by decide +kernel
theorem dX9_stepOutside_9 : decode cX9_stepOutside 9 = .ok (.aload_n 0, 1) := by decide +kernel
theorem dX9_stepOutside_10 : decode cX9_stepOutside 10 = .ok (.getfield 61, 3) := by decide +kernel
theorem dX9_stepOutside_13 : decode cX9_stepOutside 13 = .ok (.aload_n 0, 1) := by decide +kernel
theorem dX9_stepOutside_14 : decode cX9_stepOutside 14 = .ok (.getfield 147, 3) := by decide +kernel
theorem dX9_stepOutside_17 : decode cX9_stepOutside 17 = .ok (.iload_n 1, 1) := by decide +kernel
theorem dX9_stepOutside_18 : decode cX9_stepOutside 18 = .ok (.iload_n 2, 1) := by decide +kernel
theorem dX9_stepOutside_19 : decode cX9_stepOutside 19 = .ok (.aload 5, 2) := by decide +kernel
theorem dX9_stepOutside_21 : decode cX9_stepOutside 21 = .ok (.getfield 230, 3) := by decide +kernel
theorem dX9_stepOutside_24 : decode cX9_stepOutside 24 = .ok (.aload 5, 2) := by decide +kernel
theorem dX9_stepOutside_26 : decode cX9_stepOutside 26 = .ok (.getfield 235, 3) := by decide +kernel
theorem dX9_stepOutside_29 : decode cX9_stepOutside 29 = .ok (.invokevirtual 226, 3) := by decide +kernel
theorem dX9_stepOutside_32 : decode cX9_stepOutside 32 = .ok (.ifCond .ne 5, 3) := by decide +kernel
theorem dX9_stepOutside_35 : decode cX9_stepOutside 35 = .ok (.iconst 0, 1) := by decide +kernel
theorem dX9_stepOutside_36 : decode cX9_stepOutside 36 = .ok (.ireturn, 1) := by decide +kernel
theorem dX9_stepOutside_37 : decode cX9_stepOutside 37 = .ok (.aload_n 0, 1) := by decide +kernel
theorem dX9_stepOutside_38 : decode cX9_stepOutside 38 = .ok (.getfield 75, 3) := by decide +kernel
theorem dX9_stepOutside_41 : decode cX9_stepOutside 41 = .ok (.iload_n 3, 1) := by decide +kernel
theorem dX9_stepOutside_42 : decode cX9_stepOutside 42 = .ok (.putfield 168, 3) := by decide +kernel
theorem dX9_stepOutside_45 : decode cX9_stepOutside 45 = .ok (.aload_n 0, 1) := by decide +kernel
theorem dX9_stepOutside_46 : decode cX9_stepOutside 46 = .ok (.getfield 75, 3) := by decide +kernel
theorem dX9_stepOutside_49 : decode cX9_stepOutside 49 = .ok (.iload 4, 2) := by decide +kernel
theorem dX9_stepOutside_51 : decode cX9_stepOutside 51 = .ok (.putfield 192, 3) := by decide +kernel
theorem dX9_stepOutside_54 : decode cX9_stepOutside 54 = .ok (.iconst 1, 1) := by decide +kernel
theorem dX9_stepOutside_55 : decode cX9_stepOutside 55 = .ok (.ireturn, 1) := by decide +kernel
theorem dX9_loseOuterCard_0 : decode cX9_loseOuterCard 0 = .ok (.aload_n 0, 1) := by decide +kernel
theorem dX9_loseOuterCard_1 : decode cX9_loseOuterCard 1 = .ok (.iconst 1, 1) := by decide +kernel
theorem dX9_loseOuterCard_2 : decode cX9_loseOuterCard 2 = .ok (.iconst 1, 1) := by decide +kernel
theorem dX9_loseOuterCard_3 : decode cX9_loseOuterCard 3 = .ok (.iconst 0, 1) := by decide +kernel
theorem dX9_loseOuterCard_4 : decode cX9_loseOuterCard 4 = .ok (.iconst 1, 1) := by decide +kernel
theorem dX9_loseOuterCard_5 : decode cX9_loseOuterCard 5 = .ok (.invokevirtual 296, 3) := by decide +kernel
theorem dX9_loseOuterCard_8 : decode cX9_loseOuterCard 8 = .ok (.pop, 1) := by decide +kernel
theorem dX9_loseOuterCard_9 : decode cX9_loseOuterCard 9 = .ok (.iconst 1, 1) := by decide +kernel
theorem dX9_loseOuterCard_10 : decode cX9_loseOuterCard 10 = .ok (.ireturn, 1) := by decide +kernel
theorem dX9_meetOuterCard_0 : decode cX9_meetOuterCard 0 = .ok (.aload_n 0, 1) := by decide +kernel
theorem dX9_meetOuterCard_1 : decode cX9_meetOuterCard 1 = .ok (.getfield 27, 3) := by decide +kernel
theorem dX9_meetOuterCard_4 : decode cX9_meetOuterCard 4 = .ok (.iconst (-1), 1) := by decide +kernel
theorem dX9_meetOuterCard_5 : decode cX9_meetOuterCard 5 = .ok (.if_icmp .ne 5, 3) := by decide +kernel
theorem dX9_meetOuterCard_8 : decode cX9_meetOuterCard 8 = .ok (.iconst 0, 1) := by decide +kernel
theorem dX9_meetOuterCard_9 : decode cX9_meetOuterCard 9 = .ok (.ireturn, 1) := by decide +kernel
theorem dX9_meetOuterCard_10 : decode cX9_meetOuterCard 10 = .ok (.aload_n 0, 1) := by decide +kernel
theorem dX9_meetOuterCard_11 : decode cX9_meetOuterCard 11 = .ok (.iconst 2, 1) := by decide +kernel
theorem dX9_meetOuterCard_12 : decode cX9_meetOuterCard 12 = .ok (.iconst 0, 1) := by decide +kernel
theorem dX9_meetOuterCard_13 : decode cX9_meetOuterCard 13 = .ok (.iconst 1, 1) := by decide +kernel
theorem dX9_meetOuterCard_14 : decode cX9_meetOuterCard 14 = .ok (.iconst 3, 1) := by decide +kernel
theorem dX9_meetOuterCard_15 : decode cX9_meetOuterCard 15 = .ok (.invokevirtual 296, 3) := by decide +kernel
theorem dX9_meetOuterCard_18 : decode cX9_meetOuterCard 18 = .ok (.ifCond .eq 14, 3) := by decide +kernel
theorem dX9_meetOuterCard_21 : decode cX9_meetOuterCard 21 = .ok (.aload_n 0, 1) := by decide +kernel
theorem dX9_meetOuterCard_22 : decode cX9_meetOuterCard 22 = .ok (.getfield 75, 3) := by decide +kernel
theorem dX9_meetOuterCard_25 : decode cX9_meetOuterCard 25 = .ok (.aload_n 0, 1) := by decide +kernel
theorem dX9_meetOuterCard_26 : decode cX9_meetOuterCard 26 = .ok (.getfield 27, 3) := by decide +kernel
theorem dX9_meetOuterCard_29 : decode cX9_meetOuterCard 29 = .ok (.putfield 238, 3) := by decide +kernel
theorem dX9_meetOuterCard_32 : decode cX9_meetOuterCard 32 = .ok (.iconst 1, 1) := by decide +kernel
theorem dX9_meetOuterCard_33 : decode cX9_meetOuterCard 33 = .ok (.ireturn, 1) := by decide +kernel
theorem dX9_judgeOuterCard_0 : decode cX9_judgeOuterCard 0 = .ok (.aload_n 0, 1) := by decide +kernel
theorem dX9_judgeOuterCard_1 : decode cX9_judgeOuterCard 1 = .ok (.getfield 75, 3) := by decide +kernel
theorem dX9_judgeOuterCard_4 : decode cX9_judgeOuterCard 4 = .ok (.getfield 241, 3) := by decide +kernel
theorem dX9_judgeOuterCard_7 : decode cX9_judgeOuterCard 7 = .ok (.getfield 300, 3) := by decide +kernel
theorem dX9_judgeOuterCard_10 : decode cX9_judgeOuterCard 10 = .ok (.ifCond .eq 15, 3) := by decide +kernel
theorem dX9_judgeOuterCard_13 : decode cX9_judgeOuterCard 13 = .ok (.aload_n 0, 1) := by decide +kernel
theorem dX9_judgeOuterCard_14 : decode cX9_judgeOuterCard 14 = .ok (.iconst 3, 1) := by decide +kernel
theorem dX9_judgeOuterCard_15 : decode cX9_judgeOuterCard 15 = .ok (.iconst 0, 1) := by decide +kernel
theorem dX9_judgeOuterCard_16 : decode cX9_judgeOuterCard 16 = .ok (.iconst 5, 1) := by decide +kernel
theorem dX9_judgeOuterCard_17 : decode cX9_judgeOuterCard 17 = .ok (.iconst 3, 1) := by decide +kernel
theorem dX9_judgeOuterCard_18 : decode cX9_judgeOuterCard 18 = .ok (.invokevirtual 296, 3) := by decide +kernel
theorem dX9_judgeOuterCard_21 : decode cX9_judgeOuterCard 21 = .ok (.pop, 1) := by decide +kernel
theorem dX9_judgeOuterCard_22 : decode cX9_judgeOuterCard 22 = .ok (.goto 58, 3) := by decide +kernel
theorem dX9_judgeOuterCard_25 : decode cX9_judgeOuterCard 25 = .ok (.aload_n 0, 1) := by decide +kernel
theorem dX9_judgeOuterCard_26 : decode cX9_judgeOuterCard 26 = .ok (.getfield 75, 3) := by decide +kernel
theorem dX9_judgeOuterCard_29 : decode cX9_judgeOuterCard 29 = .ok (.getfield 241, 3) := by decide +kernel
theorem dX9_judgeOuterCard_32 : decode cX9_judgeOuterCard 32 = .ok (.getfield 303, 3) := by decide +kernel
theorem dX9_judgeOuterCard_35 : decode cX9_judgeOuterCard 35 = .ok (.ifCond .ne 16, 3) := by decide +kernel
theorem dX9_judgeOuterCard_38 : decode cX9_judgeOuterCard 38 = .ok (.aload_n 0, 1) := by decide +kernel
theorem dX9_judgeOuterCard_39 : decode cX9_judgeOuterCard 39 = .ok (.iconst 5, 1) := by decide +kernel
theorem dX9_judgeOuterCard_40 : decode cX9_judgeOuterCard 40 = .ok (.iconst 1, 1) := by decide +kernel
theorem dX9_judgeOuterCard_41 : decode cX9_judgeOuterCard 41 = .ok (.bipush 7, 2) := by decide +kernel
theorem dX9_judgeOuterCard_43 : decode cX9_judgeOuterCard 43 = .ok (.iconst 5, 1) := by decide +kernel
theorem dX9_judgeOuterCard_44 : decode cX9_judgeOuterCard 44 = .ok (.invokevirtual 296, 3) := by decide +kernel
theorem dX9_judgeOuterCard_47 : decode cX9_judgeOuterCard 47 = .ok (.pop, 1) := by decide +kernel
theorem dX9_judgeOuterCard_48 : decode cX9_judgeOuterCard 48 = .ok (.goto 32, 3) := by decide +kernel
theorem dX9_judgeOuterCard_51 : decode cX9_judgeOuterCard 51 = .ok (.aload_n 0, 1) := by decide +kernel
theorem dX9_judgeOuterCard_52 : decode cX9_judgeOuterCard 52 = .ok (.iconst 4, 1) := by decide +kernel
theorem dX9_judgeOuterCard_53 : decode cX9_judgeOuterCard 53 = .ok (.iconst 0, 1) := by decide +kernel
theorem dX9_judgeOuterCard_54 : decode cX9_judgeOuterCard 54 = .ok (.iconst 2, 1) := by decide +kernel
theorem dX9_judgeOuterCard_55 : decode cX9_judgeOuterCard 55 = .ok (.iconst 2, 1) := by decide +kernel
theorem dX9_judgeOuterCard_56 : decode cX9_judgeOuterCard 56 = .ok (.invokevirtual 296, 3) := by decide +kernel
theorem dX9_judgeOuterCard_59 : decode cX9_judgeOuterCard 59 = .ok (.ifCond .eq 21, 3) := by decide +kernel
theorem dX9_judgeOuterCard_62 : decode cX9_judgeOuterCard 62 = .ok (.aload_n 0, 1) := by decide +kernel
theorem dX9_judgeOuterCard_63 : decode cX9_judgeOuterCard 63 = .ok (.getfield 75, 3) := by decide +kernel
theorem dX9_judgeOuterCard_66 : decode cX9_judgeOuterCard 66 = .ok (.aload_n 0, 1) := by decide +kernel
theorem dX9_judgeOuterCard_67 : decode cX9_judgeOuterCard 67 = .ok (.getfield 147, 3) := by decide +kernel
theorem dX9_judgeOuterCard_70 : decode cX9_judgeOuterCard 70 = .ok (.aload_n 0, 1) := by decide +kernel
theorem dX9_judgeOuterCard_71 : decode cX9_judgeOuterCard 71 = .ok (.getfield 40, 3) := by decide +kernel
theorem dX9_judgeOuterCard_74 : decode cX9_judgeOuterCard 74 = .ok (.iconst 2, 1) := by decide +kernel
theorem dX9_judgeOuterCard_75 : decode cX9_judgeOuterCard 75 = .ok (.iaload, 1) := by decide +kernel
theorem dX9_judgeOuterCard_76 : decode cX9_judgeOuterCard 76 = .ok (.iadd, 1) := by decide +kernel
theorem dX9_judgeOuterCard_77 : decode cX9_judgeOuterCard 77 = .ok (.putfield 306, 3) := by decide +kernel
theorem dX9_judgeOuterCard_80 : decode cX9_judgeOuterCard 80 = .ok (.iconst 1, 1) := by decide +kernel
theorem dX9_judgeOuterCard_81 : decode cX9_judgeOuterCard 81 = .ok (.ireturn, 1) := by decide +kernel
theorem dX9_waitForFinger_0 : decode cX9_waitForFinger 0 = .ok (.aload_n 0, 1) := by decide +kernel
theorem dX9_waitForFinger_1 : decode cX9_waitForFinger 1 = .ok (.getfield 34, 3) := by decide +kernel
theorem dX9_waitForFinger_4 : decode cX9_waitForFinger 4 = .ok (.iconst (-1), 1) := by decide +kernel
theorem dX9_waitForFinger_5 : decode cX9_waitForFinger 5 = .ok (.if_icmp .eq 28, 3) := by decide +kernel
theorem dX9_waitForFinger_8 : decode cX9_waitForFinger 8 = .ok (.aload_n 0, 1) := by decide +kernel
theorem dX9_waitForFinger_9 : decode cX9_waitForFinger 9 = .ok (.bipush 6, 2) := by decide +kernel
theorem dX9_waitForFinger_11 : decode cX9_waitForFinger 11 = .ok (.iconst 0, 1) := by decide +kernel
theorem dX9_waitForFinger_12 : decode cX9_waitForFinger 12 = .ok (.iconst 3, 1) := by decide +kernel
theorem dX9_waitForFinger_13 : decode cX9_waitForFinger 13 = .ok (.iconst 3, 1) := by decide +kernel
theorem dX9_waitForFinger_14 : decode cX9_waitForFinger 14 = .ok (.invokevirtual 296, 3) := by decide +kernel
theorem dX9_waitForFinger_17 : decode cX9_waitForFinger 17 = .ok (.ifCond .eq 14, 3) := by decide +kernel
theorem dX9_waitForFinger_20 : decode cX9_waitForFinger 20 = .ok (.aload_n 0, 1) := by decide +kernel
theorem dX9_waitForFinger_21 : decode cX9_waitForFinger 21 = .ok (.getfield 75, 3) := by decide +kernel
theorem dX9_waitForFinger_24 : decode cX9_waitForFinger 24 = .ok (.aload_n 0, 1) := by decide +kernel
theorem dX9_waitForFinger_25 : decode cX9_waitForFinger 25 = .ok (.getfield 34, 3) := by decide +kernel
theorem dX9_waitForFinger_28 : decode cX9_waitForFinger 28 = .ok (.putfield 309, 3) := by decide +kernel
theorem dX9_waitForFinger_31 : decode cX9_waitForFinger 31 = .ok (.iconst 1, 1) := by decide +kernel
theorem dX9_waitForFinger_32 : decode cX9_waitForFinger 32 = .ok (.ireturn, 1) := by decide +kernel
theorem dX9_waitForFinger_33 : decode cX9_waitForFinger 33 = .ok (.aload_n 0, 1) := by decide +kernel
theorem dX9_waitForFinger_34 : decode cX9_waitForFinger 34 = .ok (.getfield 147, 3) := by decide +kernel
theorem dX9_waitForFinger_37 : decode cX9_waitForFinger 37 = .ok (.aload_n 0, 1) := by decide +kernel
theorem dX9_waitForFinger_38 : decode cX9_waitForFinger 38 = .ok (.getfield 75, 3) := by decide +kernel
theorem dX9_waitForFinger_41 : decode cX9_waitForFinger 41 = .ok (.getfield 306, 3) := by decide +kernel
theorem dX9_waitForFinger_44 : decode cX9_waitForFinger 44 = .ok (.if_icmp .gt 5, 3) := by decide +kernel
theorem dX9_waitForFinger_47 : decode cX9_waitForFinger 47 = .ok (.iconst 0, 1) := by decide +kernel
theorem dX9_waitForFinger_48 : decode cX9_waitForFinger 48 = .ok (.ireturn, 1) := by decide +kernel
theorem dX9_waitForFinger_49 : decode cX9_waitForFinger 49 = .ok (.aload_n 0, 1) := by decide +kernel
theorem dX9_waitForFinger_50 : decode cX9_waitForFinger 50 = .ok (.bipush 7, 2) := by decide +kernel
theorem dX9_waitForFinger_52 : decode cX9_waitForFinger 52 = .ok (.iconst 1, 1) := by decide +kernel
theorem dX9_waitForFinger_53 : decode cX9_waitForFinger 53 = .ok (.bipush 7, 2) := by decide +kernel
theorem dX9_waitForFinger_55 : decode cX9_waitForFinger 55 = .ok (.iconst 5, 1) := by decide +kernel
theorem dX9_waitForFinger_56 : decode cX9_waitForFinger 56 = .ok (.invokevirtual 296, 3) := by decide +kernel
theorem dX9_waitForFinger_59 : decode cX9_waitForFinger 59 = .ok (.pop, 1) := by decide +kernel
theorem dX9_waitForFinger_60 : decode cX9_waitForFinger 60 = .ok (.iconst 1, 1) := by decide +kernel
theorem dX9_waitForFinger_61 : decode cX9_waitForFinger 61 = .ok (.ireturn, 1) := by decide +kernel
theorem dX9_judgeFinger_0 : decode cX9_judgeFinger 0 = .ok (.aload_n 0, 1) := by decide +kernel
theorem dX9_judgeFinger_1 : decode cX9_judgeFinger 1 = .ok (.getfield 75, 3) := by decide +kernel
theorem dX9_judgeFinger_4 : decode cX9_judgeFinger 4 = .ok (.getfield 241, 3) := by decide +kernel
theorem dX9_judgeFinger_7 : decode cX9_judgeFinger 7 = .ok (.astore_n 1, 1) := by decide +kernel
theorem dX9_judgeFinger_8 : decode cX9_judgeFinger 8 = .ok (.aload_n 1, 1) := by decide +kernel
theorem dX9_judgeFinger_9 : decode cX9_judgeFinger 9 = .ok (.getfield 312, 3) := by decide +kernel
theorem dX9_judgeFinger_12 : decode cX9_judgeFinger 12 = .ok (.ifCond .eq 40, 3) := by decide +kernel
theorem dX9_judgeFinger_15 : decode cX9_judgeFinger 15 = .ok (.aload_n 0, 1) := by decide +kernel
theorem dX9_judgeFinger_16 : decode cX9_judgeFinger 16 = .ok (.getfield 75, 3) := by decide +kernel
theorem dX9_judgeFinger_19 : decode cX9_judgeFinger 19 = .ok (.getfield 309, 3) := by decide +kernel
theorem dX9_judgeFinger_22 : decode cX9_judgeFinger 22 = .ok (.aload_n 1, 1) := by decide +kernel
theorem dX9_judgeFinger_23 : decode cX9_judgeFinger 23 = .ok (.getfield 315, 3) := by decide +kernel
theorem dX9_judgeFinger_26 : decode cX9_judgeFinger 26 = .ok (.invokestatic 318, 3) := by decide +kernel
theorem dX9_judgeFinger_29 : decode cX9_judgeFinger 29 = .ok (.aload_n 0, 1) := by decide +kernel
theorem dX9_judgeFinger_30 : decode cX9_judgeFinger 30 = .ok (.getfield 40, 3) := by decide +kernel
theorem dX9_judgeFinger_33 : decode cX9_judgeFinger 33 = .ok (.bipush 6, 2) := by decide +kernel
theorem dX9_judgeFinger_35 : decode cX9_judgeFinger 35 = .ok (.iaload, 1) := by decide +kernel
theorem dX9_judgeFinger_36 : decode cX9_judgeFinger 36 = .ok (.if_icmp .lt 16, 3) := by decide +kernel
theorem dX9_judgeFinger_39 : decode cX9_judgeFinger 39 = .ok (.aload_n 0, 1) := by decide +kernel
theorem dX9_judgeFinger_40 : decode cX9_judgeFinger 40 = .ok (.bipush 8, 2) := by decide +kernel
theorem dX9_judgeFinger_42 : decode cX9_judgeFinger 42 = .ok (.iconst 0, 1) := by decide +kernel
theorem dX9_judgeFinger_43 : decode cX9_judgeFinger 43 = .ok (.iconst 4, 1) := by decide +kernel
theorem dX9_judgeFinger_44 : decode cX9_judgeFinger 44 = .ok (.iconst 3, 1) := by decide +kernel
theorem dX9_judgeFinger_45 : decode cX9_judgeFinger 45 = .ok (.invokevirtual 296, 3) := by decide +kernel
theorem dX9_judgeFinger_48 : decode cX9_judgeFinger 48 = .ok (.pop, 1) := by decide +kernel
theorem dX9_judgeFinger_49 : decode cX9_judgeFinger 49 = .ok (.goto 14, 3) := by decide +kernel
theorem dX9_judgeFinger_52 : decode cX9_judgeFinger 52 = .ok (.aload_n 0, 1) := by decide +kernel
theorem dX9_judgeFinger_53 : decode cX9_judgeFinger 53 = .ok (.bipush 9, 2) := by decide +kernel
theorem dX9_judgeFinger_55 : decode cX9_judgeFinger 55 = .ok (.iconst 1, 1) := by decide +kernel
theorem dX9_judgeFinger_56 : decode cX9_judgeFinger 56 = .ok (.bipush 7, 2) := by decide +kernel
theorem dX9_judgeFinger_58 : decode cX9_judgeFinger 58 = .ok (.iconst 5, 1) := by decide +kernel
theorem dX9_judgeFinger_59 : decode cX9_judgeFinger 59 = .ok (.invokevirtual 296, 3) := by decide +kernel
theorem dX9_judgeFinger_62 : decode cX9_judgeFinger 62 = .ok (.pop, 1) := by decide +kernel
theorem dX9_judgeFinger_63 : decode cX9_judgeFinger 63 = .ok (.iconst 1, 1) := by decide +kernel
theorem dX9_judgeFinger_64 : decode cX9_judgeFinger 64 = .ok (.ireturn, 1) := by decide +kernel
theorem dX9_scoreOf_0 : decode cX9_scoreOf 0 = .ok (.bipush 16, 2) := by decide +kernel
theorem dX9_scoreOf_2 : decode cX9_scoreOf 2 = .ok (.iload_n 0, 1) := by decide +kernel
theorem dX9_scoreOf_3 : decode cX9_scoreOf 3 = .ok (.iload_n 1, 1) := by decide +kernel
theorem dX9_scoreOf_4 : decode cX9_scoreOf 4 = .ok (.ixor, 1) := by decide +kernel
theorem dX9_scoreOf_5 : decode cX9_scoreOf 5 = .ok (.ldc 132, 2) := by decide +kernel
theorem dX9_scoreOf_7 : decode cX9_scoreOf 7 = .ok (.iand, 1) := by decide +kernel
theorem dX9_scoreOf_8 : decode cX9_scoreOf 8 = .ok (.invokestatic 321, 3) := by decide +kernel
theorem dX9_scoreOf_11 : decode cX9_scoreOf 11 = .ok (.isub, 1) := by decide +kernel
theorem dX9_scoreOf_12 : decode cX9_scoreOf 12 = .ok (.ireturn, 1) := by decide +kernel
theorem dX9_writePass_0 : decode cX9_writePass 0 = .ok (.aload_n 0, 1) := by decide +kernel
theorem dX9_writePass_1 : decode cX9_writePass 1 = .ok (.getfield 75, 3) := by decide +kernel
theorem dX9_writePass_4 : decode cX9_writePass 4 = .ok (.getfield 241, 3) := by decide +kernel
theorem dX9_writePass_7 : decode cX9_writePass 7 = .ok (.getfield 303, 3) := by decide +kernel
theorem dX9_writePass_10 : decode cX9_writePass 10 = .ok (.ifCond .eq 16, 3) := by decide +kernel
theorem dX9_writePass_13 : decode cX9_writePass 13 = .ok (.aload_n 0, 1) := by decide +kernel
theorem dX9_writePass_14 : decode cX9_writePass 14 = .ok (.getfield 75, 3) := by decide +kernel
theorem dX9_writePass_17 : decode cX9_writePass 17 = .ok (.getfield 238, 3) := by decide +kernel
theorem dX9_writePass_20 : decode cX9_writePass 20 = .ok (.invokestatic 118, 3) := by decide +kernel
theorem dX9_writePass_23 : decode cX9_writePass 23 = .ok (.ifCond .ne 16, 3) := by decide +kernel
theorem dX9_writePass_26 : decode cX9_writePass 26 = .ok (.aload_n 0, 1) := by decide +kernel
theorem dX9_writePass_27 : decode cX9_writePass 27 = .ok (.iconst 5, 1) := by decide +kernel
theorem dX9_writePass_28 : decode cX9_writePass 28 = .ok (.iconst 1, 1) := by decide +kernel
theorem dX9_writePass_29 : decode cX9_writePass 29 = .ok (.bipush 7, 2) := by decide +kernel
theorem dX9_writePass_31 : decode cX9_writePass 31 = .ok (.iconst 5, 1) := by decide +kernel
theorem dX9_writePass_32 : decode cX9_writePass 32 = .ok (.invokevirtual 296, 3) := by decide +kernel
theorem dX9_writePass_35 : decode cX9_writePass 35 = .ok (.pop, 1) := by decide +kernel
theorem dX9_writePass_36 : decode cX9_writePass 36 = .ok (.goto 63, 3) := by decide +kernel
theorem dX9_writePass_39 : decode cX9_writePass 39 = .ok (.aload_n 0, 1) := by decide +kernel
theorem dX9_writePass_40 : decode cX9_writePass 40 = .ok (.getfield 23, 3) := by decide +kernel
theorem dX9_writePass_43 : decode cX9_writePass 43 = .ok (.aload_n 0, 1) := by decide +kernel
theorem dX9_writePass_44 : decode cX9_writePass 44 = .ok (.getfield 75, 3) := by decide +kernel
theorem dX9_writePass_47 : decode cX9_writePass 47 = .ok (.getfield 238, 3) := by decide +kernel
theorem dX9_writePass_50 : decode cX9_writePass 50 = .ok (.aaload, 1) := by decide +kernel
theorem dX9_writePass_51 : decode cX9_writePass 51 = .ok (.getfield 128, 3) := by decide +kernel
theorem dX9_writePass_54 : decode cX9_writePass 54 = .ok (.ifCond .ne 17, 3) := by decide +kernel
theorem dX9_writePass_57 : decode cX9_writePass 57 = .ok (.aload_n 0, 1) := by decide +kernel
theorem dX9_writePass_58 : decode cX9_writePass 58 = .ok (.bipush 11, 2) := by decide +kernel
theorem dX9_writePass_60 : decode cX9_writePass 60 = .ok (.iconst 1, 1) := by decide +kernel
theorem dX9_writePass_61 : decode cX9_writePass 61 = .ok (.iconst 5, 1) := by decide +kernel
theorem dX9_writePass_62 : decode cX9_writePass 62 = .ok (.bipush 6, 2) := by decide +kernel
theorem dX9_writePass_64 : decode cX9_writePass 64 = .ok (.invokevirtual 296, 3) := by decide +kernel
theorem dX9_writePass_67 : decode cX9_writePass 67 = .ok (.pop, 1) := by decide +kernel
theorem dX9_writePass_68 : decode cX9_writePass 68 = .ok (.goto 31, 3) := by decide +kernel
theorem dX9_writePass_71 : decode cX9_writePass 71 = .ok (.aload_n 0, 1) := by decide +kernel
theorem dX9_writePass_72 : decode cX9_writePass 72 = .ok (.bipush 10, 2) := by decide +kernel
theorem dX9_writePass_74 : decode cX9_writePass 74 = .ok (.iconst 0, 1) := by decide +kernel
theorem dX9_writePass_75 : decode cX9_writePass 75 = .ok (.iconst 5, 1) := by decide +kernel
theorem dX9_writePass_76 : decode cX9_writePass 76 = .ok (.iconst 3, 1) := by decide +kernel
theorem dX9_writePass_77 : decode cX9_writePass 77 = .ok (.invokevirtual 296, 3) := by decide +kernel
theorem dX9_writePass_80 : decode cX9_writePass 80 = .ok (.ifCond .eq 19, 3) := by decide +kernel
theorem dX9_writePass_83 : decode cX9_writePass 83 = .ok (.aload_n 0, 1) := by decide +kernel
theorem dX9_writePass_84 : decode cX9_writePass 84 = .ok (.aload_n 0, 1) := by decide +kernel
theorem dX9_writePass_85 : decode cX9_writePass 85 = .ok (.getfield 23, 3) := by decide +kernel
theorem dX9_writePass_88 : decode cX9_writePass 88 = .ok (.aload_n 0, 1) := by decide +kernel
theorem dX9_writePass_89 : decode cX9_writePass 89 = .ok (.getfield 75, 3) := by decide +kernel
theorem dX9_writePass_92 : decode cX9_writePass 92 = .ok (.getfield 238, 3) := by decide +kernel
theorem dX9_writePass_95 : decode cX9_writePass 95 = .ok (.aaload, 1) := by decide +kernel
theorem dX9_writePass_96 : decode cX9_writePass 96 = .ok (.invokevirtual 326, 3) := by decide +kernel
theorem dX9_writePass_99 : decode cX9_writePass 99 = .ok (.iconst 1, 1) := by decide +kernel
theorem dX9_writePass_100 : decode cX9_writePass 100 = .ok (.ireturn, 1) := by decide +kernel
theorem dX9_makePassOn_0 : decode cX9_makePassOn 0 = .ok (.aload_n 1, 1) := by decide +kernel
theorem dX9_makePassOn_1 : decode cX9_makePassOn 1 = .ok (.getfield 220, 3) := by decide +kernel
theorem dX9_makePassOn_4 : decode cX9_makePassOn 4 = .ok (.iconst 0, 1) := by decide +kernel
theorem dX9_makePassOn_5 : decode cX9_makePassOn 5 = .ok (.aaload, 1) := by decide +kernel
theorem dX9_makePassOn_6 : decode cX9_makePassOn 6 = .ok (.astore_n 2, 1) := by decide +kernel
theorem dX9_makePassOn_7 : decode cX9_makePassOn 7 = .ok (.aload_n 1, 1) := by decide +kernel
theorem dX9_makePassOn_8 : decode cX9_makePassOn 8 = .ok (.getfield 220, 3) := by decide +kernel
theorem dX9_makePassOn_11 : decode cX9_makePassOn 11 = .ok (.iconst 1, 1) := by decide +kernel
theorem dX9_makePassOn_12 : decode cX9_makePassOn 12 = .ok (.aaload, 1) := by decide +kernel
theorem dX9_makePassOn_13 : decode cX9_makePassOn 13 = .ok (.astore_n 3, 1) := by decide +kernel
theorem dX9_makePassOn_14 : decode cX9_makePassOn 14 = .ok (.aload_n 1, 1) := by decide +kernel
theorem dX9_makePassOn_15 : decode cX9_makePassOn 15 = .ok (.iconst 3, 1) := by decide +kernel
theorem dX9_makePassOn_16 : decode cX9_makePassOn 16 = .ok (.invokevirtual 330, 3) := by decide +kernel
theorem dX9_makePassOn_19 : decode cX9_makePassOn 19 = .ok (.astore 4, 2) := by decide +kernel
theorem dX9_makePassOn_21 : decode cX9_makePassOn 21 = .ok (.aload 4, 2) := by decide +kernel
theorem dX9_makePassOn_23 : decode cX9_makePassOn 23 = .ok (.iconst 4, 1) := by decide +kernel
theorem dX9_makePassOn_24 : decode cX9_makePassOn 24 = .ok (.invokevirtual 334, 3) := by decide +kernel
theorem dX9_makePassOn_27 : decode cX9_makePassOn 27 = .ok (.aload 4, 2) := by decide +kernel
theorem dX9_makePassOn_29 : decode cX9_makePassOn 29 = .ok (.aload_n 0, 1) := by decide +kernel
theorem dX9_makePassOn_30 : decode cX9_makePassOn 30 = .ok (.getfield 54, 3) := by decide +kernel
theorem dX9_makePassOn_33 : decode cX9_makePassOn 33 = .ok (.invokevirtual 207, 3) := by decide +kernel
theorem dX9_makePassOn_36 : decode cX9_makePassOn 36 = .ok (.invokevirtual 337, 3) := by decide +kernel
theorem dX9_makePassOn_39 : decode cX9_makePassOn 39 = .ok (.aload 4, 2) := by decide +kernel
theorem dX9_makePassOn_41 : decode cX9_makePassOn 41 = .ok (.aload_n 0, 1) := by decide +kernel
theorem dX9_makePassOn_42 : decode cX9_makePassOn 42 = .ok (.getfield 37, 3) := by decide +kernel
theorem dX9_makePassOn_45 : decode cX9_makePassOn 45 = .ok (.invokevirtual 100, 3) := by decide +kernel
theorem dX9_makePassOn_48 : decode cX9_makePassOn 48 = .ok (.aload 4, 2) := by decide +kernel
theorem dX9_makePassOn_50 : decode cX9_makePassOn 50 = .ok (.aload_n 2, 1) := by decide +kernel
theorem dX9_makePassOn_51 : decode cX9_makePassOn 51 = .ok (.iconst 1, 1) := by decide +kernel
theorem dX9_makePassOn_52 : decode cX9_makePassOn 52 = .ok (.invokevirtual 340, 3) := by decide +kernel
theorem dX9_makePassOn_55 : decode cX9_makePassOn 55 = .ok (.invokevirtual 337, 3) := by decide +kernel
theorem dX9_makePassOn_58 : decode cX9_makePassOn 58 = .ok (.aload 4, 2) := by decide +kernel
theorem dX9_makePassOn_60 : decode cX9_makePassOn 60 = .ok (.aload_n 2, 1) := by decide +kernel
theorem dX9_makePassOn_61 : decode cX9_makePassOn 61 = .ok (.iconst 3, 1) := by decide +kernel
theorem dX9_makePassOn_62 : decode cX9_makePassOn 62 = .ok (.invokevirtual 343, 3) := by decide +kernel
theorem dX9_makePassOn_65 : decode cX9_makePassOn 65 = .ok (.invokevirtual 100, 3) := by decide +kernel
theorem dX9_makePassOn_68 : decode cX9_makePassOn 68 = .ok (.aload 4, 2) := by decide +kernel
theorem dX9_makePassOn_70 : decode cX9_makePassOn 70 = .ok (.aload_n 0, 1) := by decide +kernel
theorem dX9_makePassOn_71 : decode cX9_makePassOn 71 = .ok (.getfield 147, 3) := by decide +kernel
theorem dX9_makePassOn_74 : decode cX9_makePassOn 74 = .ok (.invokevirtual 100, 3) := by decide +kernel
theorem dX9_makePassOn_77 : decode cX9_makePassOn 77 = .ok (.aload 4, 2) := by decide +kernel
theorem dX9_makePassOn_79 : decode cX9_makePassOn 79 = .ok (.aload_n 0, 1) := by decide +kernel
theorem dX9_makePassOn_80 : decode cX9_makePassOn 80 = .ok (.getfield 147, 3) := by decide +kernel
theorem dX9_makePassOn_83 : decode cX9_makePassOn 83 = .ok (.aload_n 0, 1) := by decide +kernel
theorem dX9_makePassOn_84 : decode cX9_makePassOn 84 = .ok (.getfield 40, 3) := by decide +kernel
theorem dX9_makePassOn_87 : decode cX9_makePassOn 87 = .ok (.iconst 4, 1) := by decide +kernel
theorem dX9_makePassOn_88 : decode cX9_makePassOn 88 = .ok (.iaload, 1) := by decide +kernel
theorem dX9_makePassOn_89 : decode cX9_makePassOn 89 = .ok (.iadd, 1) := by decide +kernel
theorem dX9_makePassOn_90 : decode cX9_makePassOn 90 = .ok (.invokevirtual 100, 3) := by decide +kernel
theorem dX9_makePassOn_93 : decode cX9_makePassOn 93 = .ok (.aload 4, 2) := by decide +kernel
theorem dX9_makePassOn_95 : decode cX9_makePassOn 95 = .ok (.aload_n 3, 1) := by decide +kernel
theorem dX9_makePassOn_96 : decode cX9_makePassOn 96 = .ok (.bipush 21, 2) := by decide +kernel
theorem dX9_makePassOn_98 : decode cX9_makePassOn 98 = .ok (.invokevirtual 224, 3) := by decide +kernel
theorem dX9_makePassOn_101 : decode cX9_makePassOn 101 = .ok (.invokevirtual 334, 3) := by decide +kernel
theorem dX9_makePassOn_104 : decode cX9_makePassOn 104 = .ok (.aload 4, 2) := by decide +kernel
theorem dX9_makePassOn_106 : decode cX9_makePassOn 106 = .ok (.aload_n 3, 1) := by decide +kernel
theorem dX9_makePassOn_107 : decode cX9_makePassOn 107 = .ok (.bipush 22, 2) := by decide +kernel
theorem dX9_makePassOn_109 : decode cX9_makePassOn 109 = .ok (.invokevirtual 224, 3) := by decide +kernel
theorem dX9_makePassOn_112 : decode cX9_makePassOn 112 = .ok (.invokevirtual 334, 3) := by decide +kernel
theorem dX9_makePassOn_115 : decode cX9_makePassOn 115 = .ok (.aload_n 0, 1) := by decide +kernel
theorem dX9_makePassOn_116 : decode cX9_makePassOn 116 = .ok (.getfield 54, 3) := by decide +kernel
theorem dX9_makePassOn_119 : decode cX9_makePassOn 119 = .ok (.iconst 0, 1) := by decide +kernel
theorem dX9_makePassOn_120 : decode cX9_makePassOn 120 = .ok (.aload_n 0, 1) := by decide +kernel
theorem dX9_makePassOn_121 : decode cX9_makePassOn 121 = .ok (.getfield 47, 3) := by decide +kernel
theorem dX9_makePassOn_124 : decode cX9_makePassOn 124 = .ok (.invokevirtual 346, 3) := by decide +kernel
theorem dX9_makePassOn_127 : decode cX9_makePassOn 127 = .ok (.aload_n 0, 1) := by decide +kernel
theorem dX9_makePassOn_128 : decode cX9_makePassOn 128 = .ok (.getfield 47, 3) := by decide +kernel
theorem dX9_makePassOn_131 : decode cX9_makePassOn 131 = .ok (.aload 4, 2) := by decide +kernel
theorem dX9_makePassOn_133 : decode cX9_makePassOn 133 = .ok (.aload 4, 2) := by decide +kernel
theorem dX9_makePassOn_135 : decode cX9_makePassOn 135 = .ok (.getfield 103, 3) := by decide +kernel
theorem dX9_makePassOn_138 : decode cX9_makePassOn 138 = .ok (.invokevirtual 110, 3) := by decide +kernel
theorem dX9_makePassOn_141 : decode cX9_makePassOn 141 = .ok (.aload_n 0, 1) := by decide +kernel
theorem dX9_makePassOn_142 : decode cX9_makePassOn 142 = .ok (.getfield 47, 3) := by decide +kernel
theorem dX9_makePassOn_145 : decode cX9_makePassOn 145 = .ok (.aload 4, 2) := by decide +kernel
theorem dX9_makePassOn_147 : decode cX9_makePassOn 147 = .ok (.invokevirtual 114, 3) := by decide +kernel
theorem dX9_makePassOn_150 : decode cX9_makePassOn 150 = .ok (.aload_n 0, 1) := by decide +kernel
theorem dX9_makePassOn_151 : decode cX9_makePassOn 151 = .ok (.dup, 1) := by decide +kernel
theorem dX9_makePassOn_152 : decode cX9_makePassOn 152 = .ok (.getfield 37, 3) := by decide +kernel
theorem dX9_makePassOn_155 : decode cX9_makePassOn 155 = .ok (.iconst 1, 1) := by decide +kernel
theorem dX9_makePassOn_156 : decode cX9_makePassOn 156 = .ok (.iadd, 1) := by decide +kernel
theorem dX9_makePassOn_157 : decode cX9_makePassOn 157 = .ok (.putfield 37, 3) := by decide +kernel
theorem dX9_makePassOn_160 : decode cX9_makePassOn 160 = .ok (.return_, 1) := by decide +kernel
theorem dX9_judgeEntry_0 : decode cX9_judgeEntry 0 = .ok (.aload_n 0, 1) := by decide +kernel
theorem dX9_judgeEntry_1 : decode cX9_judgeEntry 1 = .ok (.getfield 75, 3) := by decide +kernel
theorem dX9_judgeEntry_4 : decode cX9_judgeEntry 4 = .ok (.getfield 241, 3) := by decide +kernel
theorem dX9_judgeEntry_7 : decode cX9_judgeEntry 7 = .ok (.invokevirtual 350, 3) := by decide +kernel
theorem dX9_judgeEntry_10 : decode cX9_judgeEntry 10 = .ok (.aload_n 0, 1) := by decide +kernel
theorem dX9_judgeEntry_11 : decode cX9_judgeEntry 11 = .ok (.getfield 40, 3) := by decide +kernel
theorem dX9_judgeEntry_14 : decode cX9_judgeEntry 14 = .ok (.iconst 5, 1) := by decide +kernel
theorem dX9_judgeEntry_15 : decode cX9_judgeEntry 15 = .ok (.iaload, 1) := by decide +kernel
theorem dX9_judgeEntry_16 : decode cX9_judgeEntry 16 = .ok (.if_icmp .lt 44, 3) := by decide +kernel
theorem dX9_judgeEntry_19 : decode cX9_judgeEntry 19 = .ok (.aload_n 0, 1) := by decide +kernel
theorem dX9_judgeEntry_20 : decode cX9_judgeEntry 20 = .ok (.invokevirtual 353, 3) := by decide +kernel
theorem dX9_judgeEntry_23 : decode cX9_judgeEntry 23 = .ok (.ifCond .eq 37, 3) := by decide +kernel
theorem dX9_judgeEntry_26 : decode cX9_judgeEntry 26 = .ok (.aload_n 0, 1) := by decide +kernel
theorem dX9_judgeEntry_27 : decode cX9_judgeEntry 27 = .ok (.bipush 12, 2) := by decide +kernel
theorem dX9_judgeEntry_29 : decode cX9_judgeEntry 29 = .ok (.iconst 0, 1) := by decide +kernel
theorem dX9_judgeEntry_30 : decode cX9_judgeEntry 30 = .ok (.bipush 6, 2) := by decide +kernel
theorem dX9_judgeEntry_32 : decode cX9_judgeEntry 32 = .ok (.iconst 4, 1) := by decide +kernel
theorem dX9_judgeEntry_33 : decode cX9_judgeEntry 33 = .ok (.invokevirtual 296, 3) := by decide +kernel
theorem dX9_judgeEntry_36 : decode cX9_judgeEntry 36 = .ok (.ifCond .eq 35, 3) := by decide +kernel
theorem dX9_judgeEntry_39 : decode cX9_judgeEntry 39 = .ok (.aload_n 0, 1) := by decide +kernel
theorem dX9_judgeEntry_40 : decode cX9_judgeEntry 40 = .ok (.getfield 75, 3) := by decide +kernel
theorem dX9_judgeEntry_43 : decode cX9_judgeEntry 43 = .ok (.aload_n 0, 1) := by decide +kernel
theorem dX9_judgeEntry_44 : decode cX9_judgeEntry 44 = .ok (.getfield 147, 3) := by decide +kernel
theorem dX9_judgeEntry_47 : decode cX9_judgeEntry 47 = .ok (.aload_n 0, 1) := by decide +kernel
theorem dX9_judgeEntry_48 : decode cX9_judgeEntry 48 = .ok (.getfield 40, 3) := by decide +kernel
theorem dX9_judgeEntry_51 : decode cX9_judgeEntry 51 = .ok (.iconst 3, 1) := by decide +kernel
theorem dX9_judgeEntry_52 : decode cX9_judgeEntry 52 = .ok (.iaload, 1) := by decide +kernel
theorem dX9_judgeEntry_53 : decode cX9_judgeEntry 53 = .ok (.iadd, 1) := by decide +kernel
theorem dX9_judgeEntry_54 : decode cX9_judgeEntry 54 = .ok (.putfield 306, 3) := by decide +kernel
theorem dX9_judgeEntry_57 : decode cX9_judgeEntry 57 = .ok (.goto 14, 3) := by decide +kernel
theorem dX9_judgeEntry_60 : decode cX9_judgeEntry 60 = .ok (.aload_n 0, 1) := by decide +kernel
theorem dX9_judgeEntry_61 : decode cX9_judgeEntry 61 = .ok (.bipush 13, 2) := by decide +kernel
theorem dX9_judgeEntry_63 : decode cX9_judgeEntry 63 = .ok (.iconst 1, 1) := by decide +kernel
theorem dX9_judgeEntry_64 : decode cX9_judgeEntry 64 = .ok (.bipush 7, 2) := by decide +kernel
theorem dX9_judgeEntry_66 : decode cX9_judgeEntry 66 = .ok (.iconst 5, 1) := by decide +kernel
theorem dX9_judgeEntry_67 : decode cX9_judgeEntry 67 = .ok (.invokevirtual 296, 3) := by decide +kernel
theorem dX9_judgeEntry_70 : decode cX9_judgeEntry 70 = .ok (.pop, 1) := by decide +kernel
theorem dX9_judgeEntry_71 : decode cX9_judgeEntry 71 = .ok (.iconst 1, 1) := by decide +kernel
theorem dX9_judgeEntry_72 : decode cX9_judgeEntry 72 = .ok (.ireturn, 1) := by decide +kernel
theorem dX9_isOpeningTime_0 : decode cX9_isOpeningTime 0 = .ok (.aload_n 0, 1) := by decide +kernel
theorem dX9_isOpeningTime_1 : decode cX9_isOpeningTime 1 = .ok (.getfield 147, 3) := by decide +kernel
theorem dX9_isOpeningTime_4 : decode cX9_isOpeningTime 4 = .ok (.sipush 1000, 3) := by decide +kernel
theorem dX9_isOpeningTime_7 : decode cX9_isOpeningTime 7 = .ok (.irem, 1) := by decide +kernel
theorem dX9_isOpeningTime_8 : decode cX9_isOpeningTime 8 = .ok (.istore_n 1, 1) := by decide +kernel
theorem dX9_isOpeningTime_9 : decode cX9_isOpeningTime 9 = .ok (.iload_n 1, 1) := by decide +kernel
theorem dX9_isOpeningTime_10 : decode cX9_isOpeningTime 10 = .ok (.aload_n 0, 1) := by decide +kernel
theorem dX9_isOpeningTime_11 : decode cX9_isOpeningTime 11 = .ok (.getfield 40, 3) := by decide +kernel
theorem dX9_isOpeningTime_14 : decode cX9_isOpeningTime 14 = .ok (.bipush 7, 2) := by decide +kernel
theorem dX9_isOpeningTime_16 : decode cX9_isOpeningTime 16 = .ok (.iaload, 1) := by decide +kernel
theorem dX9_isOpeningTime_17 : decode cX9_isOpeningTime 17 = .ok (.if_icmp .lt 7, 3) := by decide +kernel
theorem dX9_isOpeningTime_20 : decode cX9_isOpeningTime 20 = .ok (.iconst 1, 1) := by decide +kernel
theorem dX9_isOpeningTime_21 : decode cX9_isOpeningTime 21 = .ok (.goto 4, 3) := by decide +kernel
theorem dX9_isOpeningTime_24 : decode cX9_isOpeningTime 24 = .ok (.iconst 0, 1) := by decide +kernel
theorem dX9_isOpeningTime_25 : decode cX9_isOpeningTime 25 = .ok (.istore_n 2, 1) := by decide +kernel
theorem dX9_isOpeningTime_26 : decode cX9_isOpeningTime 26 = .ok (.iload_n 1, 1) := by decide +kernel
theorem dX9_isOpeningTime_27 : decode cX9_isOpeningTime 27 = .ok (.aload_n 0, 1) := by decide +kernel
theorem dX9_isOpeningTime_28 : decode cX9_isOpeningTime 28 = .ok (.getfield 40, 3) := by decide +kernel
theorem dX9_isOpeningTime_31 : decode cX9_isOpeningTime 31 = .ok (.bipush 8, 2) := by decide +kernel
theorem dX9_isOpeningTime_33 : decode cX9_isOpeningTime 33 = .ok (.iaload, 1) := by decide +kernel
theorem dX9_isOpeningTime_34 : decode cX9_isOpeningTime 34 = .ok (.if_icmp .gt 7, 3) := by decide +kernel
theorem dX9_isOpeningTime_37 : decode cX9_isOpeningTime 37 = .ok (.iconst 1, 1) := by decide +kernel
theorem dX9_isOpeningTime_38 : decode cX9_isOpeningTime 38 = .ok (.goto 4, 3) := by decide +kernel
theorem dX9_isOpeningTime_41 : decode cX9_isOpeningTime 41 = .ok (.iconst 0, 1) := by decide +kernel
theorem dX9_isOpeningTime_42 : decode cX9_isOpeningTime 42 = .ok (.istore_n 3, 1) := by decide +kernel
theorem dX9_isOpeningTime_43 : decode cX9_isOpeningTime 43 = .ok (.aload_n 0, 1) := by decide +kernel
theorem dX9_isOpeningTime_44 : decode cX9_isOpeningTime 44 = .ok (.getfield 40, 3) := by decide +kernel
theorem dX9_isOpeningTime_47 : decode cX9_isOpeningTime 47 = .ok (.bipush 7, 2) := by decide +kernel
theorem dX9_isOpeningTime_49 : decode cX9_isOpeningTime 49 = .ok (.iaload, 1) := by decide +kernel
theorem dX9_isOpeningTime_50 : decode cX9_isOpeningTime 50 = .ok (.aload_n 0, 1) := by decide +kernel
theorem dX9_isOpeningTime_51 : decode cX9_isOpeningTime 51 = .ok (.getfield 40, 3) := by decide +kernel
theorem dX9_isOpeningTime_54 : decode cX9_isOpeningTime 54 = .ok (.bipush 8, 2) := by decide +kernel
theorem dX9_isOpeningTime_56 : decode cX9_isOpeningTime 56 = .ok (.iaload, 1) := by decide +kernel
theorem dX9_isOpeningTime_57 : decode cX9_isOpeningTime 57 = .ok (.if_icmp .gt 19, 3) := by decide +kernel
theorem dX9_isOpeningTime_60 : decode cX9_isOpeningTime 60 = .ok (.iload_n 2, 1) := by decide +kernel
theorem dX9_isOpeningTime_61 : decode cX9_isOpeningTime 61 = .ok (.ifCond .eq 11, 3) := by decide +kernel
theorem dX9_isOpeningTime_64 : decode cX9_isOpeningTime 64 = .ok (.iload_n 3, 1) := by decide +kernel
theorem dX9_isOpeningTime_65 : decode cX9_isOpeningTime 65 = .ok (.ifCond .eq 7, 3) := by decide +kernel
theorem dX9_isOpeningTime_68 : decode cX9_isOpeningTime 68 = .ok (.iconst 1, 1) := by decide +kernel
theorem dX9_isOpeningTime_69 : decode cX9_isOpeningTime 69 = .ok (.goto 20, 3) := by decide +kernel
theorem dX9_isOpeningTime_72 : decode cX9_isOpeningTime 72 = .ok (.iconst 0, 1) := by decide +kernel
theorem dX9_isOpeningTime_73 : decode cX9_isOpeningTime 73 = .ok (.goto 16, 3) := by decide +kernel
theorem dX9_isOpeningTime_76 : decode cX9_isOpeningTime 76 = .ok (.iload_n 2, 1) := by decide +kernel
theorem dX9_isOpeningTime_77 : decode cX9_isOpeningTime 77 = .ok (.ifCond .ne 7, 3) := by decide +kernel
theorem dX9_isOpeningTime_80 : decode cX9_isOpeningTime 80 = .ok (.iload_n 3, 1) := by decide +kernel
theorem dX9_isOpeningTime_81 : decode cX9_isOpeningTime 81 = .ok (.ifCond .eq 7, 3) := by decide +kernel
theorem dX9_isOpeningTime_84 : decode cX9_isOpeningTime 84 = .ok (.iconst 1, 1) := by decide +kernel
theorem dX9_isOpeningTime_85 : decode cX9_isOpeningTime 85 = .ok (.goto 4, 3) := by decide +kernel
theorem dX9_isOpeningTime_88 : decode cX9_isOpeningTime 88 = .ok (.iconst 0, 1) := by decide +kernel
theorem dX9_isOpeningTime_89 : decode cX9_isOpeningTime 89 = .ok (.ireturn, 1) := by decide +kernel
theorem dX9_waitForRemoval_0 : decode cX9_waitForRemoval 0 = .ok (.aload_n 0, 1) := by decide +kernel
theorem dX9_waitForRemoval_1 : decode cX9_waitForRemoval 1 = .ok (.getfield 27, 3) := by decide +kernel
theorem dX9_waitForRemoval_4 : decode cX9_waitForRemoval 4 = .ok (.iconst (-1), 1) := by decide +kernel
theorem dX9_waitForRemoval_5 : decode cX9_waitForRemoval 5 = .ok (.if_icmp .ne 39, 3) := by decide +kernel
theorem dX9_waitForRemoval_8 : decode cX9_waitForRemoval 8 = .ok (.aload_n 0, 1) := by decide +kernel
theorem dX9_waitForRemoval_9 : decode cX9_waitForRemoval 9 = .ok (.aload_n 0, 1) := by decide +kernel
theorem dX9_waitForRemoval_10 : decode cX9_waitForRemoval 10 = .ok (.getfield 75, 3) := by decide +kernel
theorem dX9_waitForRemoval_13 : decode cX9_waitForRemoval 13 = .ok (.getfield 241, 3) := by decide +kernel
theorem dX9_waitForRemoval_16 : decode cX9_waitForRemoval 16 = .ok (.bipush 14, 2) := by decide +kernel
theorem dX9_waitForRemoval_18 : decode cX9_waitForRemoval 18 = .ok (.iconst 0, 1) := by decide +kernel
theorem dX9_waitForRemoval_19 : decode cX9_waitForRemoval 19 = .ok (.invokevirtual 356, 3) := by decide +kernel
theorem dX9_waitForRemoval_22 : decode cX9_waitForRemoval 22 = .ok (.ifCond .eq 20, 3) := by decide +kernel
theorem dX9_waitForRemoval_25 : decode cX9_waitForRemoval 25 = .ok (.aload_n 0, 1) := by decide +kernel
theorem dX9_waitForRemoval_26 : decode cX9_waitForRemoval 26 = .ok (.bipush 22, 2) := by decide +kernel
theorem dX9_waitForRemoval_28 : decode cX9_waitForRemoval 28 = .ok (.iconst 0, 1) := by decide +kernel
theorem dX9_waitForRemoval_29 : decode cX9_waitForRemoval 29 = .ok (.iconst 0, 1) := by decide +kernel
theorem dX9_waitForRemoval_30 : decode cX9_waitForRemoval 30 = .ok (.bipush 7, 2) := by decide +kernel
theorem dX9_waitForRemoval_32 : decode cX9_waitForRemoval 32 = .ok (.invokevirtual 296, 3) := by decide +kernel
theorem dX9_waitForRemoval_35 : decode cX9_waitForRemoval 35 = .ok (.ifCond .eq 7, 3) := by decide +kernel
theorem dX9_waitForRemoval_38 : decode cX9_waitForRemoval 38 = .ok (.aload_n 0, 1) := by decide +kernel
theorem dX9_waitForRemoval_39 : decode cX9_waitForRemoval 39 = .ok (.invokevirtual 360, 3) := by decide +kernel
theorem dX9_waitForRemoval_42 : decode cX9_waitForRemoval 42 = .ok (.iconst 1, 1) := by decide +kernel
theorem dX9_waitForRemoval_43 : decode cX9_waitForRemoval 43 = .ok (.ireturn, 1) := by decide +kernel
theorem dX9_waitForRemoval_44 : decode cX9_waitForRemoval 44 = .ok (.aload_n 0, 1) := by decide +kernel
theorem dX9_waitForRemoval_45 : decode cX9_waitForRemoval 45 = .ok (.getfield 147, 3) := by decide +kernel
theorem dX9_waitForRemoval_48 : decode cX9_waitForRemoval 48 = .ok (.aload_n 0, 1) := by decide +kernel
theorem dX9_waitForRemoval_49 : decode cX9_waitForRemoval 49 = .ok (.getfield 75, 3) := by decide +kernel
theorem dX9_waitForRemoval_52 : decode cX9_waitForRemoval 52 = .ok (.getfield 306, 3) := by decide +kernel
theorem dX9_waitForRemoval_55 : decode cX9_waitForRemoval 55 = .ok (.if_icmp .gt 5, 3) := by decide +kernel
theorem dX9_waitForRemoval_58 : decode cX9_waitForRemoval 58 = .ok (.iconst 0, 1) := by decide +kernel
theorem dX9_waitForRemoval_59 : decode cX9_waitForRemoval 59 = .ok (.ireturn, 1) := by decide +kernel
theorem dX9_waitForRemoval_60 : decode cX9_waitForRemoval 60 = .ok (.aload_n 0, 1) := by decide +kernel
theorem dX9_waitForRemoval_61 : decode cX9_waitForRemoval 61 = .ok (.bipush 15, 2) := by decide +kernel
theorem dX9_waitForRemoval_63 : decode cX9_waitForRemoval 63 = .ok (.iconst 1, 1) := by decide +kernel
theorem dX9_waitForRemoval_64 : decode cX9_waitForRemoval 64 = .ok (.bipush 7, 2) := by decide +kernel
theorem dX9_waitForRemoval_66 : decode cX9_waitForRemoval 66 = .ok (.iconst 5, 1) := by decide +kernel
theorem dX9_waitForRemoval_67 : decode cX9_waitForRemoval 67 = .ok (.invokevirtual 296, 3) := by decide +kernel
theorem dX9_waitForRemoval_70 : decode cX9_waitForRemoval 70 = .ok (.pop, 1) := by decide +kernel
theorem dX9_waitForRemoval_71 : decode cX9_waitForRemoval 71 = .ok (.iconst 1, 1) := by decide +kernel
theorem dX9_waitForRemoval_72 : decode cX9_waitForRemoval 72 = .ok (.ireturn, 1) := by decide +kernel
theorem dX9_endIllVisit_0 : decode cX9_endIllVisit 0 = .ok (.aload_n 0, 1) := by decide +kernel
theorem dX9_endIllVisit_1 : decode cX9_endIllVisit 1 = .ok (.getfield 27, 3) := by decide +kernel
theorem dX9_endIllVisit_4 : decode cX9_endIllVisit 4 = .ok (.iconst (-1), 1) := by decide +kernel
theorem dX9_endIllVisit_5 : decode cX9_endIllVisit 5 = .ok (.if_icmp .eq 5, 3) := by decide +kernel
theorem dX9_endIllVisit_8 : decode cX9_endIllVisit 8 = .ok (.iconst 0, 1) := by decide +kernel
theorem dX9_endIllVisit_9 : decode cX9_endIllVisit 9 = .ok (.ireturn, 1) := by decide +kernel
theorem dX9_endIllVisit_10 : decode cX9_endIllVisit 10 = .ok (.aload_n 0, 1) := by decide +kernel
theorem dX9_endIllVisit_11 : decode cX9_endIllVisit 11 = .ok (.bipush 16, 2) := by decide +kernel
theorem dX9_endIllVisit_13 : decode cX9_endIllVisit 13 = .ok (.iconst 0, 1) := by decide +kernel
theorem dX9_endIllVisit_14 : decode cX9_endIllVisit 14 = .ok (.iconst 0, 1) := by decide +kernel
theorem dX9_endIllVisit_15 : decode cX9_endIllVisit 15 = .ok (.iconst 1, 1) := by decide +kernel
theorem dX9_endIllVisit_16 : decode cX9_endIllVisit 16 = .ok (.invokevirtual 296, 3) := by decide +kernel
theorem dX9_endIllVisit_19 : decode cX9_endIllVisit 19 = .ok (.pop, 1) := by decide +kernel
theorem dX9_endIllVisit_20 : decode cX9_endIllVisit 20 = .ok (.iconst 1, 1) := by decide +kernel
theorem dX9_endIllVisit_21 : decode cX9_endIllVisit 21 = .ok (.ireturn, 1) := by decide +kernel
theorem dX9_actInside_0 : decode cX9_actInside 0 = .ok (.aload_n 0, 1) := by decide +kernel
theorem dX9_actInside_1 : decode cX9_actInside 1 = .ok (.getfield 61, 3) := by decide +kernel
theorem dX9_actInside_4 : decode cX9_actInside 4 = .ok (.getfield 263, 3) := by decide +kernel
theorem dX9_actInside_7 : decode cX9_actInside 7 = .ok (.ifCond .ne 5, 3) := by decide +kernel
theorem dX9_actInside_10 : decode cX9_actInside 10 = .ok (.iconst 0, 1) := by decide +kernel
theorem dX9_actInside_11 : decode cX9_actInside 11 = .ok (.ireturn, 1) := by decide +kernel
theorem dX9_actInside_12 : decode cX9_actInside 12 = .ok (.aload_n 0, 1) := by decide +kernel
theorem dX9_actInside_13 : decode cX9_actInside 13 = .ok (.getfield 82, 3) := by decide +kernel
theorem dX9_actInside_16 : decode cX9_actInside 16 = .ok (.getfield 156, 3) := by decide +kernel
theorem dX9_actInside_19 : decode cX9_actInside 19 = .ok (.tableswitch 169 0 6 #[41, 61, 81, 119, 124, 129, 149], 41) := by decide +kernel
theorem dX9_actInside_60 : decode cX9_actInside 60 = .ok (.aload_n 0, 1) := by decide +kernel
theorem dX9_actInside_61 : decode cX9_actInside 61 = .ok (.getfield 139, 3) := by decide +kernel
theorem dX9_actInside_64 : decode cX9_actInside 64 = .ok (.ifCond .eq 14, 3) := by decide +kernel
theorem dX9_actInside_67 : decode cX9_actInside 67 = .ok (.aload_n 0, 1) := by decide +kernel
theorem dX9_actInside_68 : decode cX9_actInside 68 = .ok (.invokevirtual 363, 3) := by decide +kernel
theorem dX9_actInside_71 : decode cX9_actInside 71 = .ok (.ifCond .eq 7, 3) := by decide +kernel
theorem dX9_actInside_74 : decode cX9_actInside 74 = .ok (.iconst 1, 1) := by decide +kernel
theorem dX9_actInside_75 : decode cX9_actInside 75 = .ok (.goto 4, 3) := by decide +kernel
theorem dX9_actInside_78 : decode cX9_actInside 78 = .ok (.iconst 0, 1) := by decide +kernel
theorem dX9_actInside_79 : decode cX9_actInside 79 = .ok (.ireturn, 1) := by decide +kernel
theorem dX9_actInside_80 : decode cX9_actInside 80 = .ok (.aload_n 0, 1) := by decide +kernel
theorem dX9_actInside_81 : decode cX9_actInside 81 = .ok (.getfield 139, 3) := by decide +kernel
theorem dX9_actInside_84 : decode cX9_actInside 84 = .ok (.ifCond .ne 14, 3) := by decide +kernel
theorem dX9_actInside_87 : decode cX9_actInside 87 = .ok (.aload_n 0, 1) := by decide +kernel
theorem dX9_actInside_88 : decode cX9_actInside 88 = .ok (.invokevirtual 366, 3) := by decide +kernel
theorem dX9_actInside_91 : decode cX9_actInside 91 = .ok (.ifCond .eq 7, 3) := by decide +kernel
theorem dX9_actInside_94 : decode cX9_actInside 94 = .ok (.iconst 1, 1) := by decide +kernel
theorem dX9_actInside_95 : decode cX9_actInside 95 = .ok (.goto 4, 3) := by decide +kernel
theorem dX9_actInside_98 : decode cX9_actInside 98 = .ok (.iconst 0, 1) := by decide +kernel
theorem dX9_actInside_99 : decode cX9_actInside 99 = .ok (.ireturn, 1) := by decide +kernel
theorem dX9_actInside_100 : decode cX9_actInside 100 = .ok (.aload_n 0, 1) := by decide +kernel
theorem dX9_actInside_101 : decode cX9_actInside 101 = .ok (.getfield 82, 3) := by decide +kernel
theorem dX9_actInside_104 : decode cX9_actInside 104 = .ok (.getfield 198, 3) := by decide +kernel
theorem dX9_actInside_107 : decode cX9_actInside 107 = .ok (.iconst (-1), 1) := by decide +kernel
theorem dX9_actInside_108 : decode cX9_actInside 108 = .ok (.if_icmp .ne 10, 3) := by decide +kernel
theorem dX9_actInside_111 : decode cX9_actInside 111 = .ok (.aload_n 0, 1) := by decide +kernel
theorem dX9_actInside_112 : decode cX9_actInside 112 = .ok (.invokevirtual 369, 3) := by decide +kernel
theorem dX9_actInside_115 : decode cX9_actInside 115 = .ok (.goto 22, 3) := by decide +kernel
theorem dX9_actInside_118 : decode cX9_actInside 118 = .ok (.aload_n 0, 1) := by decide +kernel
theorem dX9_actInside_119 : decode cX9_actInside 119 = .ok (.invokevirtual 372, 3) := by decide +kernel
theorem dX9_actInside_122 : decode cX9_actInside 122 = .ok (.ifCond .ne 10, 3) := by decide +kernel
theorem dX9_actInside_125 : decode cX9_actInside 125 = .ok (.aload_n 0, 1) := by decide +kernel
theorem dX9_actInside_126 : decode cX9_actInside 126 = .ok (.invokevirtual 375, 3) := by decide +kernel
theorem dX9_actInside_129 : decode cX9_actInside 129 = .ok (.ifCond .eq 7, 3) := by decide +kernel
theorem dX9_actInside_132 : decode cX9_actInside 132 = .ok (.iconst 1, 1) := by decide +kernel
theorem dX9_actInside_133 : decode cX9_actInside 133 = .ok (.goto 4, 3) := by decide +kernel
theorem dX9_actInside_136 : decode cX9_actInside 136 = .ok (.iconst 0, 1) := by decide +kernel
theorem dX9_actInside_137 : decode cX9_actInside 137 = .ok (.ireturn, 1) := by decide +kernel
theorem dX9_actInside_138 : decode cX9_actInside 138 = .ok (.aload_n 0, 1) := by decide +kernel
theorem dX9_actInside_139 : decode cX9_actInside 139 = .ok (.invokevirtual 378, 3) := by decide +kernel
theorem dX9_actInside_142 : decode cX9_actInside 142 = .ok (.ireturn, 1) := by decide +kernel
theorem dX9_actInside_143 : decode cX9_actInside 143 = .ok (.aload_n 0, 1) := by decide +kernel
theorem dX9_actInside_144 : decode cX9_actInside 144 = .ok (.invokevirtual 381, 3) := by decide +kernel
theorem dX9_actInside_147 : decode cX9_actInside 147 = .ok (.ireturn, 1) := by decide +kernel
theorem dX9_actInside_148 : decode cX9_actInside 148 = .ok (.aload_n 0, 1) := by decide +kernel
theorem dX9_actInside_149 : decode cX9_actInside 149 = .ok (.invokevirtual 372, 3) := by decide +kernel
theorem dX9_actInside_152 : decode cX9_actInside 152 = .ok (.ifCond .ne 10, 3) := by decide +kernel
theorem dX9_actInside_155 : decode cX9_actInside 155 = .ok (.aload_n 0, 1) := by decide +kernel
theorem dX9_actInside_156 : decode cX9_actInside 156 = .ok (.invokevirtual 384, 3) := by decide +kernel
theorem dX9_actInside_159 : decode cX9_actInside 159 = .ok (.ifCond .eq 7, 3) := by decide +kernel
theorem dX9_actInside_162 : decode cX9_actInside 162 = .ok (.iconst 1, 1) := by decide +kernel
theorem dX9_actInside_163 : decode cX9_actInside 163 = .ok (.goto 4, 3) := by decide +kernel
theorem dX9_actInside_166 : decode cX9_actInside 166 = .ok (.iconst 0, 1) := by decide +kernel
theorem dX9_actInside_167 : decode cX9_actInside 167 = .ok (.ireturn, 1) := by decide +kernel
theorem dX9_actInside_168 : decode cX9_actInside 168 = .ok (.aload_n 0, 1) := by decide +kernel
theorem dX9_actInside_169 : decode cX9_actInside 169 = .ok (.invokevirtual 372, 3) := by decide +kernel
theorem dX9_actInside_172 : decode cX9_actInside 172 = .ok (.ifCond .ne 10, 3) := by decide +kernel
theorem dX9_actInside_175 : decode cX9_actInside 175 = .ok (.aload_n 0, 1) := by decide +kernel
theorem dX9_actInside_176 : decode cX9_actInside 176 = .ok (.invokevirtual 387, 3) := by decide +kernel
theorem dX9_actInside_179 : decode cX9_actInside 179 = .ok (.ifCond .eq 7, 3) := by decide +kernel
theorem dX9_actInside_182 : decode cX9_actInside 182 = .ok (.iconst 1, 1) := by decide +kernel
theorem dX9_actInside_183 : decode cX9_actInside 183 = .ok (.goto 4, 3) := by decide +kernel
theorem dX9_actInside_186 : decode cX9_actInside 186 = .ok (.iconst 0, 1) := by decide +kernel
theorem dX9_actInside_187 : decode cX9_actInside 187 = .ok (.ireturn, 1) := by decide +kernel
theorem dX9_actInside_188 : decode cX9_actInside 188 = .ok (.iconst 0, 1) := by decide +kernel
theorem dX9_actInside_189 : decode cX9_actInside 189 = .ok (.ireturn, 1) := by decide +kernel
theorem dX9_enrol_0 : decode cX9_enrol 0 = .ok (.aload_n 0, 1) := by decide +kernel
theorem dX9_enrol_1 : decode cX9_enrol 1 = .ok (.getfield 18, 3) := by decide +kernel
theorem dX9_enrol_4 : decode cX9_enrol 4 = .ok (.invokestatic 390, 3) := by decide +kernel
theorem dX9_enrol_7 : decode cX9_enrol 7 = .ok (.ifCond .ne 33, 3) := by decide +kernel
theorem dX9_enrol_10 : decode cX9_enrol 10 = .ok (.aload_n 0, 1) := by decide +kernel
theorem dX9_enrol_11 : decode cX9_enrol 11 = .ok (.bipush 41, 2) := by decide +kernel
theorem dX9_enrol_13 : decode cX9_enrol 13 = .ok (.iconst 1, 1) := by decide +kernel
theorem dX9_enrol_14 : decode cX9_enrol 14 = .ok (.invokevirtual 254, 3) := by decide +kernel
theorem dX9_enrol_17 : decode cX9_enrol 17 = .ok (.ifCond .eq 68, 3) := by decide +kernel
theorem dX9_enrol_20 : decode cX9_enrol 20 = .ok (.aload_n 0, 1) := by decide +kernel
theorem dX9_enrol_21 : decode cX9_enrol 21 = .ok (.getfield 82, 3) := by decide +kernel
theorem dX9_enrol_24 : decode cX9_enrol 24 = .ok (.iconst 1, 1) := by decide +kernel
theorem dX9_enrol_25 : decode cX9_enrol 25 = .ok (.putfield 156, 3) := by decide +kernel
theorem dX9_enrol_28 : decode cX9_enrol 28 = .ok (.aload_n 0, 1) := by decide +kernel
theorem dX9_enrol_29 : decode cX9_enrol 29 = .ok (.getfield 82, 3) := by decide +kernel
theorem dX9_enrol_32 : decode cX9_enrol 32 = .ok (.bipush 9, 2) := by decide +kernel
theorem dX9_enrol_34 : decode cX9_enrol 34 = .ok (.putfield 195, 3) := by decide +kernel
theorem dX9_enrol_37 : decode cX9_enrol 37 = .ok (.goto 48, 3) := by decide +kernel
theorem dX9_enrol_40 : decode cX9_enrol 40 = .ok (.aload_n 0, 1) := by decide +kernel
theorem dX9_enrol_41 : decode cX9_enrol 41 = .ok (.bipush 40, 2) := by decide +kernel
theorem dX9_enrol_43 : decode cX9_enrol 43 = .ok (.iconst 0, 1) := by decide +kernel
theorem dX9_enrol_44 : decode cX9_enrol 44 = .ok (.invokevirtual 254, 3) := by decide +kernel
theorem dX9_enrol_47 : decode cX9_enrol 47 = .ok (.ifCond .eq 38, 3) := by decide +kernel
theorem dX9_enrol_50 : decode cX9_enrol 50 = .ok (.aload_n 0, 1) := by decide +kernel
theorem dX9_enrol_51 : decode cX9_enrol 51 = .ok (.getfield 54, 3) := by decide +kernel
theorem dX9_enrol_54 : decode cX9_enrol 54 = .ok (.aload_n 0, 1) := by decide +kernel
theorem dX9_enrol_55 : decode cX9_enrol 55 = .ok (.getfield 18, 3) := by decide +kernel
theorem dX9_enrol_58 : decode cX9_enrol 58 = .ok (.invokevirtual 394, 3) := by decide +kernel
theorem dX9_enrol_61 : decode cX9_enrol 61 = .ok (.aload_n 0, 1) := by decide +kernel
theorem dX9_enrol_62 : decode cX9_enrol 62 = .ok (.getfield 82, 3) := by decide +kernel
theorem dX9_enrol_65 : decode cX9_enrol 65 = .ok (.iconst 2, 1) := by decide +kernel
theorem dX9_enrol_66 : decode cX9_enrol 66 = .ok (.putfield 156, 3) := by decide +kernel
theorem dX9_enrol_69 : decode cX9_enrol 69 = .ok (.aload_n 0, 1) := by decide +kernel
theorem dX9_enrol_70 : decode cX9_enrol 70 = .ok (.getfield 82, 3) := by decide +kernel
theorem dX9_enrol_73 : decode cX9_enrol 73 = .ok (.iconst 1, 1) := by decide +kernel
theorem dX9_enrol_74 : decode cX9_enrol 74 = .ok (.putfield 195, 3) := by decide +kernel
theorem dX9_enrol_77 : decode cX9_enrol 77 = .ok (.aload_n 0, 1) := by decide +kernel
theorem dX9_enrol_78 : decode cX9_enrol 78 = .ok (.getfield 75, 3) := by decide +kernel
theorem dX9_enrol_81 : decode cX9_enrol 81 = .ok (.iconst 1, 1) := by decide +kernel
theorem dX9_enrol_82 : decode cX9_enrol 82 = .ok (.putfield 192, 3) := by decide +kernel
theorem dX9_enrol_85 : decode cX9_enrol 85 = .ok (.iconst 1, 1) := by decide +kernel
theorem dX9_enrol_86 : decode cX9_enrol 86 = .ok (.ireturn, 1) := by decide +kernel
theorem dX9_awaitEnrolment_0 : decode cX9_awaitEnrolment 0 = .ok (.aload_n 0, 1) := by decide +kernel
theorem dX9_awaitEnrolment_1 : decode cX9_awaitEnrolment 1 = .ok (.getfield 82, 3) := by decide +kernel
theorem dX9_awaitEnrolment_4 : decode cX9_awaitEnrolment 4 = .ok (.iconst 0, 1) := by decide +kernel
theorem dX9_awaitEnrolment_5 : decode cX9_awaitEnrolment 5 = .ok (.putfield 156, 3) := by decide +kernel
theorem dX9_awaitEnrolment_8 : decode cX9_awaitEnrolment 8 = .ok (.aload_n 0, 1) := by decide +kernel
theorem dX9_awaitEnrolment_9 : decode cX9_awaitEnrolment 9 = .ok (.getfield 82, 3) := by decide +kernel
theorem dX9_awaitEnrolment_12 : decode cX9_awaitEnrolment 12 = .ok (.bipush 8, 2) := by decide +kernel
theorem dX9_awaitEnrolment_14 : decode cX9_awaitEnrolment 14 = .ok (.putfield 195, 3) := by decide +kernel
theorem dX9_awaitEnrolment_17 : decode cX9_awaitEnrolment 17 = .ok (.iconst 1, 1) := by decide +kernel
theorem dX9_awaitEnrolment_18 : decode cX9_awaitEnrolment 18 = .ok (.ireturn, 1) := by decide +kernel
theorem dX9_stepInside_0 : decode cX9_stepInside 0 = .ok (.aload_n 0, 1) := by decide +kernel
theorem dX9_stepInside_1 : decode cX9_stepInside 1 = .ok (.getfield 82, 3) := by decide +kernel
theorem dX9_stepInside_4 : decode cX9_stepInside 4 = .ok (.getfield 250, 3) := by decide +kernel
theorem dX9_stepInside_7 : decode cX9_stepInside 7 = .ok (.astore 5, 2) := by decide +kernel
theorem dX9_stepInside_9 : decode cX9_stepInside 9 = .ok (.aload_n 0, 1) := by decide +kernel
theorem dX9_stepInside_10 : decode cX9_stepInside 10 = .ok (.getfield 61, 3) := by decide +kernel
theorem dX9_stepInside_13 : decode cX9_stepInside 13 = .ok (.aload_n 0, 1) := by decide +kernel
theorem dX9_stepInside_14 : decode cX9_stepInside 14 = .ok (.getfield 147, 3) := by decide +kernel
theorem dX9_stepInside_17 : decode cX9_stepInside 17 = .ok (.iload_n 1, 1) := by decide +kernel
theorem dX9_stepInside_18 : decode cX9_stepInside 18 = .ok (.iload_n 2, 1) := by decide +kernel
theorem dX9_stepInside_19 : decode cX9_stepInside 19 = .ok (.aload 5, 2) := by decide +kernel
theorem dX9_stepInside_21 : decode cX9_stepInside 21 = .ok (.getfield 230, 3) := by decide +kernel
theorem dX9_stepInside_24 : decode cX9_stepInside 24 = .ok (.aload 5, 2) := by decide +kernel
theorem dX9_stepInside_26 : decode cX9_stepInside 26 = .ok (.getfield 235, 3) := by decide +kernel
theorem dX9_stepInside_29 : decode cX9_stepInside 29 = .ok (.invokevirtual 226, 3) := by decide +kernel
theorem dX9_stepInside_32 : decode cX9_stepInside 32 = .ok (.ifCond .ne 5, 3) := by decide +kernel
theorem dX9_stepInside_35 : decode cX9_stepInside 35 = .ok (.iconst 0, 1) := by decide +kernel
theorem dX9_stepInside_36 : decode cX9_stepInside 36 = .ok (.ireturn, 1) := by decide +kernel
theorem dX9_stepInside_37 : decode cX9_stepInside 37 = .ok (.aload_n 0, 1) := by decide +kernel
theorem dX9_stepInside_38 : decode cX9_stepInside 38 = .ok (.getfield 82, 3) := by decide +kernel
theorem dX9_stepInside_41 : decode cX9_stepInside 41 = .ok (.iload_n 3, 1) := by decide +kernel
theorem dX9_stepInside_42 : decode cX9_stepInside 42 = .ok (.putfield 156, 3) := by decide +kernel
theorem dX9_stepInside_45 : decode cX9_stepInside 45 = .ok (.aload_n 0, 1) := by decide +kernel
theorem dX9_stepInside_46 : decode cX9_stepInside 46 = .ok (.getfield 82, 3) := by decide +kernel
theorem dX9_stepInside_49 : decode cX9_stepInside 49 = .ok (.iload 4, 2) := by decide +kernel
theorem dX9_stepInside_51 : decode cX9_stepInside 51 = .ok (.putfield 195, 3) := by decide +kernel
theorem dX9_stepInside_54 : decode cX9_stepInside 54 = .ok (.iconst 1, 1) := by decide +kernel
theorem dX9_stepInside_55 : decode cX9_stepInside 55 = .ok (.ireturn, 1) := by decide +kernel
theorem dX9_meetInnerCard_0 : decode cX9_meetInnerCard 0 = .ok (.aload_n 0, 1) := by decide +kernel
theorem dX9_meetInnerCard_1 : decode cX9_meetInnerCard 1 = .ok (.getfield 31, 3) := by decide +kernel
theorem dX9_meetInnerCard_4 : decode cX9_meetInnerCard 4 = .ok (.iconst (-1), 1) := by decide +kernel
theorem dX9_meetInnerCard_5 : decode cX9_meetInnerCard 5 = .ok (.if_icmp .ne 5, 3) := by decide +kernel
theorem dX9_meetInnerCard_8 : decode cX9_meetInnerCard 8 = .ok (.iconst 0, 1) := by decide +kernel
theorem dX9_meetInnerCard_9 : decode cX9_meetInnerCard 9 = .ok (.ireturn, 1) := by decide +kernel
theorem dX9_meetInnerCard_10 : decode cX9_meetInnerCard 10 = .ok (.aload_n 0, 1) := by decide +kernel
theorem dX9_meetInnerCard_11 : decode cX9_meetInnerCard 11 = .ok (.bipush 42, 2) := by decide +kernel
theorem dX9_meetInnerCard_13 : decode cX9_meetInnerCard 13 = .ok (.iconst 0, 1) := by decide +kernel
theorem dX9_meetInnerCard_14 : decode cX9_meetInnerCard 14 = .ok (.iconst 3, 1) := by decide +kernel
theorem dX9_meetInnerCard_15 : decode cX9_meetInnerCard 15 = .ok (.iconst 2, 1) := by decide +kernel
theorem dX9_meetInnerCard_16 : decode cX9_meetInnerCard 16 = .ok (.invokevirtual 397, 3) := by decide +kernel
theorem dX9_meetInnerCard_19 : decode cX9_meetInnerCard 19 = .ok (.ifCond .eq 14, 3) := by decide +kernel
theorem dX9_meetInnerCard_22 : decode cX9_meetInnerCard 22 = .ok (.aload_n 0, 1) := by decide +kernel
theorem dX9_meetInnerCard_23 : decode cX9_meetInnerCard 23 = .ok (.getfield 82, 3) := by decide +kernel
theorem dX9_meetInnerCard_26 : decode cX9_meetInnerCard 26 = .ok (.aload_n 0, 1) := by decide +kernel
theorem dX9_meetInnerCard_27 : decode cX9_meetInnerCard 27 = .ok (.getfield 31, 3) := by decide +kernel
theorem dX9_meetInnerCard_30 : decode cX9_meetInnerCard 30 = .ok (.putfield 249, 3) := by decide +kernel
theorem dX9_meetInnerCard_33 : decode cX9_meetInnerCard 33 = .ok (.iconst 1, 1) := by decide +kernel
theorem dX9_meetInnerCard_34 : decode cX9_meetInnerCard 34 = .ok (.ireturn, 1) := by decide +kernel
theorem dX9_judgeInnerCard_0 : decode cX9_judgeInnerCard 0 = .ok (.aload_n 0, 1) := by decide +kernel
theorem dX9_judgeInnerCard_1 : decode cX9_judgeInnerCard 1 = .ok (.getfield 82, 3) := by decide +kernel
theorem dX9_judgeInnerCard_4 : decode cX9_judgeInnerCard 4 = .ok (.getfield 250, 3) := by decide +kernel
theorem dX9_judgeInnerCard_7 : decode cX9_judgeInnerCard 7 = .ok (.astore_n 1, 1) := by decide +kernel
theorem dX9_judgeInnerCard_8 : decode cX9_judgeInnerCard 8 = .ok (.aload_n 0, 1) := by decide +kernel
theorem dX9_judgeInnerCard_9 : decode cX9_judgeInnerCard 9 = .ok (.getfield 31, 3) := by decide +kernel
theorem dX9_judgeInnerCard_12 : decode cX9_judgeInnerCard 12 = .ok (.aload_n 0, 1) := by decide +kernel
theorem dX9_judgeInnerCard_13 : decode cX9_judgeInnerCard 13 = .ok (.getfield 82, 3) := by decide +kernel
theorem dX9_judgeInnerCard_16 : decode cX9_judgeInnerCard 16 = .ok (.getfield 249, 3) := by decide +kernel
theorem dX9_judgeInnerCard_19 : decode cX9_judgeInnerCard 19 = .ok (.if_icmp .eq 16, 3) := by decide +kernel
theorem dX9_judgeInnerCard_22 : decode cX9_judgeInnerCard 22 = .ok (.aload_n 0, 1) := by decide +kernel
theorem dX9_judgeInnerCard_23 : decode cX9_judgeInnerCard 23 = .ok (.bipush 43, 2) := by decide +kernel
theorem dX9_judgeInnerCard_25 : decode cX9_judgeInnerCard 25 = .ok (.iconst 1, 1) := by decide +kernel
theorem dX9_judgeInnerCard_26 : decode cX9_judgeInnerCard 26 = .ok (.iconst 2, 1) := by decide +kernel
theorem dX9_judgeInnerCard_27 : decode cX9_judgeInnerCard 27 = .ok (.iconst 1, 1) := by decide +kernel
theorem dX9_judgeInnerCard_28 : decode cX9_judgeInnerCard 28 = .ok (.invokevirtual 397, 3) := by decide +kernel
theorem dX9_judgeInnerCard_31 : decode cX9_judgeInnerCard 31 = .ok (.pop, 1) := by decide +kernel
theorem dX9_judgeInnerCard_32 : decode cX9_judgeInnerCard 32 = .ok (.goto 53, 3) := by decide +kernel
theorem dX9_judgeInnerCard_35 : decode cX9_judgeInnerCard 35 = .ok (.aload_n 1, 1) := by decide +kernel
theorem dX9_judgeInnerCard_36 : decode cX9_judgeInnerCard 36 = .ok (.getfield 300, 3) := by decide +kernel
theorem dX9_judgeInnerCard_39 : decode cX9_judgeInnerCard 39 = .ok (.ifCond .eq 10, 3) := by decide +kernel
theorem dX9_judgeInnerCard_42 : decode cX9_judgeInnerCard 42 = .ok (.aload_n 1, 1) := by decide +kernel
theorem dX9_judgeInnerCard_43 : decode cX9_judgeInnerCard 43 = .ok (.getfield 400, 3) := by decide +kernel
theorem dX9_judgeInnerCard_46 : decode cX9_judgeInnerCard 46 = .ok (.ifCond .ne 16, 3) := by decide +kernel
theorem dX9_judgeInnerCard_49 : decode cX9_judgeInnerCard 49 = .ok (.aload_n 0, 1) := by decide +kernel
theorem dX9_judgeInnerCard_50 : decode cX9_judgeInnerCard 50 = .ok (.bipush 45, 2) := by decide +kernel
theorem dX9_judgeInnerCard_52 : decode cX9_judgeInnerCard 52 = .ok (.iconst 1, 1) := by decide +kernel
theorem dX9_judgeInnerCard_53 : decode cX9_judgeInnerCard 53 = .ok (.iconst 4, 1) := by decide +kernel
theorem dX9_judgeInnerCard_54 : decode cX9_judgeInnerCard 54 = .ok (.iconst 4, 1) := by decide +kernel
theorem dX9_judgeInnerCard_55 : decode cX9_judgeInnerCard 55 = .ok (.invokevirtual 397, 3) := by decide +kernel
theorem dX9_judgeInnerCard_58 : decode cX9_judgeInnerCard 58 = .ok (.pop, 1) := by decide +kernel
theorem dX9_judgeInnerCard_59 : decode cX9_judgeInnerCard 59 = .ok (.goto 26, 3) := by decide +kernel
theorem dX9_judgeInnerCard_62 : decode cX9_judgeInnerCard 62 = .ok (.aload_n 0, 1) := by decide +kernel
theorem dX9_judgeInnerCard_63 : decode cX9_judgeInnerCard 63 = .ok (.bipush 44, 2) := by decide +kernel
theorem dX9_judgeInnerCard_65 : decode cX9_judgeInnerCard 65 = .ok (.iconst 0, 1) := by decide +kernel
theorem dX9_judgeInnerCard_66 : decode cX9_judgeInnerCard 66 = .ok (.iconst 2, 1) := by decide +kernel
theorem dX9_judgeInnerCard_67 : decode cX9_judgeInnerCard 67 = .ok (.iconst 5, 1) := by decide +kernel
theorem dX9_judgeInnerCard_68 : decode cX9_judgeInnerCard 68 = .ok (.invokevirtual 397, 3) := by decide +kernel
theorem dX9_judgeInnerCard_71 : decode cX9_judgeInnerCard 71 = .ok (.ifCond .eq 14, 3) := by decide +kernel
theorem dX9_judgeInnerCard_74 : decode cX9_judgeInnerCard 74 = .ok (.aload_n 0, 1) := by decide +kernel
theorem dX9_judgeInnerCard_75 : decode cX9_judgeInnerCard 75 = .ok (.getfield 82, 3) := by decide +kernel
theorem dX9_judgeInnerCard_78 : decode cX9_judgeInnerCard 78 = .ok (.aload_n 1, 1) := by decide +kernel
theorem dX9_judgeInnerCard_79 : decode cX9_judgeInnerCard 79 = .ok (.getfield 400, 3) := by decide +kernel
theorem dX9_judgeInnerCard_82 : decode cX9_judgeInnerCard 82 = .ok (.putfield 198, 3) := by decide +kernel
theorem dX9_judgeInnerCard_85 : decode cX9_judgeInnerCard 85 = .ok (.iconst 1, 1) := by decide +kernel
theorem dX9_judgeInnerCard_86 : decode cX9_judgeInnerCard 86 = .ok (.ireturn, 1) := by decide +kernel
theorem dX9_endInnerVisit_0 : decode cX9_endInnerVisit 0 = .ok (.aload_n 0, 1) := by decide +kernel
theorem dX9_endInnerVisit_1 : decode cX9_endInnerVisit 1 = .ok (.getfield 31, 3) := by decide +kernel
theorem dX9_endInnerVisit_4 : decode cX9_endInnerVisit 4 = .ok (.iconst (-1), 1) := by decide +kernel
theorem dX9_endInnerVisit_5 : decode cX9_endInnerVisit 5 = .ok (.if_icmp .eq 5, 3) := by decide +kernel
theorem dX9_endInnerVisit_8 : decode cX9_endInnerVisit 8 = .ok (.iconst 0, 1) := by decide +kernel
theorem dX9_endInnerVisit_9 : decode cX9_endInnerVisit 9 = .ok (.ireturn, 1) := by decide +kernel
theorem dX9_endInnerVisit_10 : decode cX9_endInnerVisit 10 = .ok (.aload_n 0, 1) := by decide +kernel
theorem dX9_endInnerVisit_11 : decode cX9_endInnerVisit 11 = .ok (.bipush 46, 2) := by decide +kernel
theorem dX9_endInnerVisit_13 : decode cX9_endInnerVisit 13 = .ok (.iconst 0, 1) := by decide +kernel
theorem dX9_endInnerVisit_14 : decode cX9_endInnerVisit 14 = .ok (.iconst 2, 1) := by decide +kernel
theorem dX9_endInnerVisit_15 : decode cX9_endInnerVisit 15 = .ok (.iconst 1, 1) := by decide +kernel
theorem dX9_endInnerVisit_16 : decode cX9_endInnerVisit 16 = .ok (.invokevirtual 397, 3) := by decide +kernel
theorem dX9_endInnerVisit_19 : decode cX9_endInnerVisit 19 = .ok (.pop, 1) := by decide +kernel
theorem dX9_endInnerVisit_20 : decode cX9_endInnerVisit 20 = .ok (.iconst 1, 1) := by decide +kernel
theorem dX9_endInnerVisit_21 : decode cX9_endInnerVisit 21 = .ok (.ireturn, 1) := by decide +kernel
theorem dX9_roleEnds_0 : decode cX9_roleEnds 0 = .ok (.aload_n 0, 1) := by decide +kernel
theorem dX9_roleEnds_1 : decode cX9_roleEnds 1 = .ok (.getfield 82, 3) := by decide +kernel
theorem dX9_roleEnds_4 : decode cX9_roleEnds 4 = .ok (.getfield 250, 3) := by decide +kernel
theorem dX9_roleEnds_7 : decode cX9_roleEnds 7 = .ok (.astore_n 1, 1) := by decide +kernel
theorem dX9_roleEnds_8 : decode cX9_roleEnds 8 = .ok (.aload_n 0, 1) := by decide +kernel
theorem dX9_roleEnds_9 : decode cX9_roleEnds 9 = .ok (.getfield 31, 3) := by decide +kernel
theorem dX9_roleEnds_12 : decode cX9_roleEnds 12 = .ok (.aload_n 0, 1) := by decide +kernel
theorem dX9_roleEnds_13 : decode cX9_roleEnds 13 = .ok (.getfield 82, 3) := by decide +kernel
theorem dX9_roleEnds_16 : decode cX9_roleEnds 16 = .ok (.getfield 249, 3) := by decide +kernel
theorem dX9_roleEnds_19 : decode cX9_roleEnds 19 = .ok (.if_icmp .eq 25, 3) := by decide +kernel
theorem dX9_roleEnds_22 : decode cX9_roleEnds 22 = .ok (.aload_n 0, 1) := by decide +kernel
theorem dX9_roleEnds_23 : decode cX9_roleEnds 23 = .ok (.bipush 47, 2) := by decide +kernel
theorem dX9_roleEnds_25 : decode cX9_roleEnds 25 = .ok (.iconst 0, 1) := by decide +kernel
theorem dX9_roleEnds_26 : decode cX9_roleEnds 26 = .ok (.iconst 2, 1) := by decide +kernel
theorem dX9_roleEnds_27 : decode cX9_roleEnds 27 = .ok (.iconst 1, 1) := by decide +kernel
theorem dX9_roleEnds_28 : decode cX9_roleEnds 28 = .ok (.invokevirtual 397, 3) := by decide +kernel
theorem dX9_roleEnds_31 : decode cX9_roleEnds 31 = .ok (.ifCond .eq 11, 3) := by decide +kernel
theorem dX9_roleEnds_34 : decode cX9_roleEnds 34 = .ok (.aload_n 0, 1) := by decide +kernel
theorem dX9_roleEnds_35 : decode cX9_roleEnds 35 = .ok (.getfield 82, 3) := by decide +kernel
theorem dX9_roleEnds_38 : decode cX9_roleEnds 38 = .ok (.iconst (-1), 1) := by decide +kernel
theorem dX9_roleEnds_39 : decode cX9_roleEnds 39 = .ok (.putfield 198, 3) := by decide +kernel
theorem dX9_roleEnds_42 : decode cX9_roleEnds 42 = .ok (.iconst 1, 1) := by decide +kernel
theorem dX9_roleEnds_43 : decode cX9_roleEnds 43 = .ok (.ireturn, 1) := by decide +kernel
theorem dX9_roleEnds_44 : decode cX9_roleEnds 44 = .ok (.aload_n 1, 1) := by decide +kernel
theorem dX9_roleEnds_45 : decode cX9_roleEnds 45 = .ok (.getfield 300, 3) := by decide +kernel
theorem dX9_roleEnds_48 : decode cX9_roleEnds 48 = .ok (.ifCond .eq 19, 3) := by decide +kernel
theorem dX9_roleEnds_51 : decode cX9_roleEnds 51 = .ok (.aload_n 1, 1) := by decide +kernel
theorem dX9_roleEnds_52 : decode cX9_roleEnds 52 = .ok (.getfield 400, 3) := by decide +kernel
theorem dX9_roleEnds_55 : decode cX9_roleEnds 55 = .ok (.aload_n 0, 1) := by decide +kernel
theorem dX9_roleEnds_56 : decode cX9_roleEnds 56 = .ok (.getfield 82, 3) := by decide +kernel
theorem dX9_roleEnds_59 : decode cX9_roleEnds 59 = .ok (.getfield 198, 3) := by decide +kernel
theorem dX9_roleEnds_62 : decode cX9_roleEnds 62 = .ok (.if_icmp .ne 5, 3) := by decide +kernel
theorem dX9_roleEnds_65 : decode cX9_roleEnds 65 = .ok (.iconst 0, 1) := by decide +kernel
theorem dX9_roleEnds_66 : decode cX9_roleEnds 66 = .ok (.ireturn, 1) := by decide +kernel
theorem dX9_roleEnds_67 : decode cX9_roleEnds 67 = .ok (.aload_n 0, 1) := by decide +kernel
theorem dX9_roleEnds_68 : decode cX9_roleEnds 68 = .ok (.bipush 48, 2) := by decide +kernel
theorem dX9_roleEnds_70 : decode cX9_roleEnds 70 = .ok (.iconst 1, 1) := by decide +kernel
theorem dX9_roleEnds_71 : decode cX9_roleEnds 71 = .ok (.iconst 4, 1) := by decide +kernel
theorem dX9_roleEnds_72 : decode cX9_roleEnds 72 = .ok (.iconst 4, 1) := by decide +kernel
theorem dX9_roleEnds_73 : decode cX9_roleEnds 73 = .ok (.invokevirtual 397, 3) := by decide +kernel
theorem dX9_roleEnds_76 : decode cX9_roleEnds 76 = .ok (.ifCond .eq 11, 3) := by decide +kernel
theorem dX9_roleEnds_79 : decode cX9_roleEnds 79 = .ok (.aload_n 0, 1) := by decide +kernel
theorem dX9_roleEnds_80 : decode cX9_roleEnds 80 = .ok (.getfield 82, 3) := by decide +kernel
theorem dX9_roleEnds_83 : decode cX9_roleEnds 83 = .ok (.iconst (-1), 1) := by decide +kernel
theorem dX9_roleEnds_84 : decode cX9_roleEnds 84 = .ok (.putfield 198, 3) := by decide +kernel
theorem dX9_roleEnds_87 : decode cX9_roleEnds 87 = .ok (.iconst 1, 1) := by decide +kernel
theorem dX9_roleEnds_88 : decode cX9_roleEnds 88 = .ok (.ireturn, 1) := by decide +kernel
theorem dX9_takeKey_0 : decode cX9_takeKey 0 = .ok (.aload_n 0, 1) := by decide +kernel
theorem dX9_takeKey_1 : decode cX9_takeKey 1 = .ok (.getfield 142, 3) := by decide +kernel
theorem dX9_takeKey_4 : decode cX9_takeKey 4 = .ok (.ifCond .ne 5, 3) := by decide +kernel
theorem dX9_takeKey_7 : decode cX9_takeKey 7 = .ok (.iconst 0, 1) := by decide +kernel
theorem dX9_takeKey_8 : decode cX9_takeKey 8 = .ok (.ireturn, 1) := by decide +kernel
theorem dX9_takeKey_9 : decode cX9_takeKey 9 = .ok (.aload_n 0, 1) := by decide +kernel
theorem dX9_takeKey_10 : decode cX9_takeKey 10 = .ok (.getfield 82, 3) := by decide +kernel
theorem dX9_takeKey_13 : decode cX9_takeKey 13 = .ok (.getfield 198, 3) := by decide +kernel
theorem dX9_takeKey_16 : decode cX9_takeKey 16 = .ok (.aload_n 0, 1) := by decide +kernel
theorem dX9_takeKey_17 : decode cX9_takeKey 17 = .ok (.getfield 142, 3) := by decide +kernel
theorem dX9_takeKey_20 : decode cX9_takeKey 20 = .ok (.invokestatic 403, 3) := by decide +kernel
theorem dX9_takeKey_23 : decode cX9_takeKey 23 = .ok (.if_icmp .eq 23, 3) := by decide +kernel
theorem dX9_takeKey_26 : decode cX9_takeKey 26 = .ok (.aload_n 0, 1) := by decide +kernel
theorem dX9_takeKey_27 : decode cX9_takeKey 27 = .ok (.bipush 55, 2) := by decide +kernel
theorem dX9_takeKey_29 : decode cX9_takeKey 29 = .ok (.iconst 1, 1) := by decide +kernel
theorem dX9_takeKey_30 : decode cX9_takeKey 30 = .ok (.iconst 2, 1) := by decide +kernel
theorem dX9_takeKey_31 : decode cX9_takeKey 31 = .ok (.iconst 3, 1) := by decide +kernel
theorem dX9_takeKey_32 : decode cX9_takeKey 32 = .ok (.invokevirtual 397, 3) := by decide +kernel
theorem dX9_takeKey_35 : decode cX9_takeKey 35 = .ok (.ifCond .eq 45, 3) := by decide +kernel
theorem dX9_takeKey_38 : decode cX9_takeKey 38 = .ok (.aload_n 0, 1) := by decide +kernel
theorem dX9_takeKey_39 : decode cX9_takeKey 39 = .ok (.iconst 0, 1) := by decide +kernel
theorem dX9_takeKey_40 : decode cX9_takeKey 40 = .ok (.putfield 142, 3) := by decide +kernel
theorem dX9_takeKey_43 : decode cX9_takeKey 43 = .ok (.goto 37, 3) := by decide +kernel
theorem dX9_takeKey_46 : decode cX9_takeKey 46 = .ok (.aload_n 0, 1) := by decide +kernel
theorem dX9_takeKey_47 : decode cX9_takeKey 47 = .ok (.bipush 50, 2) := by decide +kernel
theorem dX9_takeKey_49 : decode cX9_takeKey 49 = .ok (.aload_n 0, 1) := by decide +kernel
theorem dX9_takeKey_50 : decode cX9_takeKey 50 = .ok (.getfield 142, 3) := by decide +kernel
theorem dX9_takeKey_53 : decode cX9_takeKey 53 = .ok (.iadd, 1) := by decide +kernel
theorem dX9_takeKey_54 : decode cX9_takeKey 54 = .ok (.iconst 0, 1) := by decide +kernel
theorem dX9_takeKey_55 : decode cX9_takeKey 55 = .ok (.iconst 5, 1) := by decide +kernel
theorem dX9_takeKey_56 : decode cX9_takeKey 56 = .ok (.bipush 6, 2) := by decide +kernel
theorem dX9_takeKey_58 : decode cX9_takeKey 58 = .ok (.invokevirtual 397, 3) := by decide +kernel
theorem dX9_takeKey_61 : decode cX9_takeKey 61 = .ok (.ifCond .eq 19, 3) := by decide +kernel
theorem dX9_takeKey_64 : decode cX9_takeKey 64 = .ok (.aload_n 0, 1) := by decide +kernel
theorem dX9_takeKey_65 : decode cX9_takeKey 65 = .ok (.getfield 82, 3) := by decide +kernel
theorem dX9_takeKey_68 : decode cX9_takeKey 68 = .ok (.aload_n 0, 1) := by decide +kernel
theorem dX9_takeKey_69 : decode cX9_takeKey 69 = .ok (.getfield 142, 3) := by decide +kernel
theorem dX9_takeKey_72 : decode cX9_takeKey 72 = .ok (.putfield 406, 3) := by decide +kernel
theorem dX9_takeKey_75 : decode cX9_takeKey 75 = .ok (.aload_n 0, 1) := by decide +kernel
theorem dX9_takeKey_76 : decode cX9_takeKey 76 = .ok (.iconst 0, 1) := by decide +kernel
theorem dX9_takeKey_77 : decode cX9_takeKey 77 = .ok (.putfield 142, 3) := by decide +kernel
theorem dX9_takeKey_80 : decode cX9_takeKey 80 = .ok (.iconst 1, 1) := by decide +kernel
theorem dX9_takeKey_81 : decode cX9_takeKey 81 = .ok (.ireturn, 1) := by decide +kernel
theorem dX9_roleFor_0 : decode cX9_roleFor 0 = .ok (.iload_n 0, 1) := by decide +kernel
theorem dX9_roleFor_1 : decode cX9_roleFor 1 = .ok (.lookupswitch 31 #[(1, 27), (3, 29)], 27) := by decide +kernel
theorem dX9_roleFor_28 : decode cX9_roleFor 28 = .ok (.iconst 2, 1) := by decide +kernel
theorem dX9_roleFor_29 : decode cX9_roleFor 29 = .ok (.ireturn, 1) := by decide +kernel
theorem dX9_roleFor_30 : decode cX9_roleFor 30 = .ok (.iconst 1, 1) := by decide +kernel
theorem dX9_roleFor_31 : decode cX9_roleFor 31 = .ok (.ireturn, 1) := by decide +kernel
theorem dX9_roleFor_32 : decode cX9_roleFor 32 = .ok (.iconst 3, 1) := by decide +kernel
theorem dX9_roleFor_33 : decode cX9_roleFor 33 = .ok (.ireturn, 1) := by decide +kernel
theorem dX9_startRequest_0 : decode cX9_startRequest 0 = .ok (.aload_n 0, 1) := by decide +kernel
theorem dX9_startRequest_1 : decode cX9_startRequest 1 = .ok (.getfield 82, 3) := by decide +kernel
theorem dX9_startRequest_4 : decode cX9_startRequest 4 = .ok (.getfield 406, 3) := by decide +kernel
theorem dX9_startRequest_7 : decode cX9_startRequest 7 = .ok (.tableswitch 77 1 4 #[29, 48, 67, 72], 29) := by decide +kernel
theorem dX9_startRequest_36 : decode cX9_startRequest 36 = .ok (.aload_n 0, 1) := by decide +kernel
theorem dX9_startRequest_37 : decode cX9_startRequest 37 = .ok (.getfield 139, 3) := by decide +kernel
theorem dX9_startRequest_40 : decode cX9_startRequest 40 = .ok (.ifCond .eq 10, 3) := by decide +kernel
theorem dX9_startRequest_43 : decode cX9_startRequest 43 = .ok (.aload_n 0, 1) := by decide +kernel
theorem dX9_startRequest_44 : decode cX9_startRequest 44 = .ok (.invokevirtual 409, 3) := by decide +kernel
theorem dX9_startRequest_47 : decode cX9_startRequest 47 = .ok (.goto 7, 3) := by decide +kernel
theorem dX9_startRequest_50 : decode cX9_startRequest 50 = .ok (.aload_n 0, 1) := by decide +kernel
theorem dX9_startRequest_51 : decode cX9_startRequest 51 = .ok (.invokevirtual 412, 3) := by decide +kernel
theorem dX9_startRequest_54 : decode cX9_startRequest 54 = .ok (.ireturn, 1) := by decide +kernel
theorem dX9_startRequest_55 : decode cX9_startRequest 55 = .ok (.aload_n 0, 1) := by decide +kernel
theorem dX9_startRequest_56 : decode cX9_startRequest 56 = .ok (.getfield 139, 3) := by decide +kernel
theorem dX9_startRequest_59 : decode cX9_startRequest 59 = .ok (.ifCond .eq 10, 3) := by decide +kernel
theorem dX9_startRequest_62 : decode cX9_startRequest 62 = .ok (.aload_n 0, 1) := by decide +kernel
theorem dX9_startRequest_63 : decode cX9_startRequest 63 = .ok (.invokevirtual 415, 3) := by decide +kernel
theorem dX9_startRequest_66 : decode cX9_startRequest 66 = .ok (.goto 7, 3) := by decide +kernel
theorem dX9_startRequest_69 : decode cX9_startRequest 69 = .ok (.aload_n 0, 1) := by decide +kernel
theorem dX9_startRequest_70 : decode cX9_startRequest 70 = .ok (.invokevirtual 412, 3) := by decide +kernel
theorem dX9_startRequest_73 : decode cX9_startRequest 73 = .ok (.ireturn, 1) := by decide +kernel
theorem dX9_startRequest_74 : decode cX9_startRequest 74 = .ok (.aload_n 0, 1) := by decide +kernel
theorem dX9_startRequest_75 : decode cX9_startRequest 75 = .ok (.invokevirtual 418, 3) := by decide +kernel
theorem dX9_startRequest_78 : decode cX9_startRequest 78 = .ok (.ireturn, 1) := by decide +kernel
theorem dX9_startRequest_79 : decode cX9_startRequest 79 = .ok (.aload_n 0, 1) := by decide +kernel
theorem dX9_startRequest_80 : decode cX9_startRequest 80 = .ok (.invokevirtual 421, 3) := by decide +kernel
theorem dX9_startRequest_83 : decode cX9_startRequest 83 = .ok (.ireturn, 1) := by decide +kernel
theorem dX9_startRequest_84 : decode cX9_startRequest 84 = .ok (.iconst 0, 1) := by decide +kernel
theorem dX9_startRequest_85 : decode cX9_startRequest 85 = .ok (.ireturn, 1) := by decide +kernel
theorem dX9_askForDisk_0 : decode cX9_askForDisk 0 = .ok (.aload_n 0, 1) := by decide +kernel
theorem dX9_askForDisk_1 : decode cX9_askForDisk 1 = .ok (.getfield 82, 3) := by decide +kernel
theorem dX9_askForDisk_4 : decode cX9_askForDisk 4 = .ok (.getfield 195, 3) := by decide +kernel
theorem dX9_askForDisk_7 : decode cX9_askForDisk 7 = .ok (.bipush 7, 2) := by decide +kernel
theorem dX9_askForDisk_9 : decode cX9_askForDisk 9 = .ok (.if_icmp .ne 7, 3) := by decide +kernel
theorem dX9_askForDisk_12 : decode cX9_askForDisk 12 = .ok (.iconst 1, 1) := by decide +kernel
theorem dX9_askForDisk_13 : decode cX9_askForDisk 13 = .ok (.goto 4, 3) := by decide +kernel
theorem dX9_askForDisk_16 : decode cX9_askForDisk 16 = .ok (.iconst 0, 1) := by decide +kernel
theorem dX9_askForDisk_17 : decode cX9_askForDisk 17 = .ok (.istore_n 1, 1) := by decide +kernel
theorem dX9_askForDisk_18 : decode cX9_askForDisk 18 = .ok (.aload_n 0, 1) := by decide +kernel
theorem dX9_askForDisk_19 : decode cX9_askForDisk 19 = .ok (.getfield 82, 3) := by decide +kernel
theorem dX9_askForDisk_22 : decode cX9_askForDisk 22 = .ok (.bipush 7, 2) := by decide +kernel
theorem dX9_askForDisk_24 : decode cX9_askForDisk 24 = .ok (.putfield 195, 3) := by decide +kernel
theorem dX9_askForDisk_27 : decode cX9_askForDisk 27 = .ok (.iload_n 1, 1) := by decide +kernel
theorem dX9_askForDisk_28 : decode cX9_askForDisk 28 = .ok (.ifCond .ne 7, 3) := by decide +kernel
theorem dX9_askForDisk_31 : decode cX9_askForDisk 31 = .ok (.iconst 1, 1) := by decide +kernel
theorem dX9_askForDisk_32 : decode cX9_askForDisk 32 = .ok (.goto 4, 3) := by decide +kernel
theorem dX9_askForDisk_35 : decode cX9_askForDisk 35 = .ok (.iconst 0, 1) := by decide +kernel
theorem dX9_askForDisk_36 : decode cX9_askForDisk 36 = .ok (.ireturn, 1) := by decide +kernel
theorem dX9_startArchive_0 : decode cX9_startArchive 0 = .ok (.aload_n 0, 1) := by decide +kernel
theorem dX9_startArchive_1 : decode cX9_startArchive 1 = .ok (.bipush 56, 2) := by decide +kernel
theorem dX9_startArchive_3 : decode cX9_startArchive 3 = .ok (.iconst 0, 1) := by decide +kernel
theorem dX9_startArchive_4 : decode cX9_startArchive 4 = .ok (.bipush 6, 2) := by decide +kernel
theorem dX9_startArchive_6 : decode cX9_startArchive 6 = .ok (.bipush 6, 2) := by decide +kernel
theorem dX9_startArchive_8 : decode cX9_startArchive 8 = .ok (.invokevirtual 397, 3) := by decide +kernel
theorem dX9_startArchive_11 : decode cX9_startArchive 11 = .ok (.ifCond .eq 71, 3) := by decide +kernel
theorem dX9_startArchive_14 : decode cX9_startArchive 14 = .ok (.aload_n 0, 1) := by decide +kernel
theorem dX9_startArchive_15 : decode cX9_startArchive 15 = .ok (.getfield 82, 3) := by decide +kernel
theorem dX9_startArchive_18 : decode cX9_startArchive 18 = .ok (.aload_n 0, 1) := by decide +kernel
theorem dX9_startArchive_19 : decode cX9_startArchive 19 = .ok (.getfield 61, 3) := by decide +kernel
theorem dX9_startArchive_22 : decode cX9_startArchive 22 = .ok (.invokevirtual 424, 3) := by decide +kernel
theorem dX9_startArchive_25 : decode cX9_startArchive 25 = .ok (.putfield 427, 3) := by decide +kernel
theorem dX9_startArchive_28 : decode cX9_startArchive 28 = .ok (.aload_n 0, 1) := by decide +kernel
theorem dX9_startArchive_29 : decode cX9_startArchive 29 = .ok (.getfield 82, 3) := by decide +kernel
theorem dX9_startArchive_32 : decode cX9_startArchive 32 = .ok (.aload_n 0, 1) := by decide +kernel
theorem dX9_startArchive_33 : decode cX9_startArchive 33 = .ok (.getfield 61, 3) := by decide +kernel
theorem dX9_startArchive_36 : decode cX9_startArchive 36 = .ok (.getfield 201, 3) := by decide +kernel
theorem dX9_startArchive_39 : decode cX9_startArchive 39 = .ok (.bipush 24, 2) := by decide +kernel
theorem dX9_startArchive_41 : decode cX9_startArchive 41 = .ok (.invokestatic 430, 3) := by decide +kernel
theorem dX9_startArchive_44 : decode cX9_startArchive 44 = .ok (.putfield 435, 3) := by decide +kernel
theorem dX9_startArchive_47 : decode cX9_startArchive 47 = .ok (.aload_n 0, 1) := by decide +kernel
theorem dX9_startArchive_48 : decode cX9_startArchive 48 = .ok (.getfield 18, 3) := by decide +kernel
theorem dX9_startArchive_51 : decode cX9_startArchive 51 = .ok (.iconst 0, 1) := by decide +kernel
theorem dX9_startArchive_52 : decode cX9_startArchive 52 = .ok (.putfield 103, 3) := by decide +kernel
theorem dX9_startArchive_55 : decode cX9_startArchive 55 = .ok (.aload_n 0, 1) := by decide +kernel
theorem dX9_startArchive_56 : decode cX9_startArchive 56 = .ok (.getfield 18, 3) := by decide +kernel
theorem dX9_startArchive_59 : decode cX9_startArchive 59 = .ok (.bipush 82, 2) := by decide +kernel
theorem dX9_startArchive_61 : decode cX9_startArchive 61 = .ok (.invokevirtual 334, 3) := by decide +kernel
theorem dX9_startArchive_64 : decode cX9_startArchive 64 = .ok (.aload_n 0, 1) := by decide +kernel
theorem dX9_startArchive_65 : decode cX9_startArchive 65 = .ok (.getfield 61, 3) := by decide +kernel
theorem dX9_startArchive_68 : decode cX9_startArchive 68 = .ok (.aload_n 0, 1) := by decide +kernel
theorem dX9_startArchive_69 : decode cX9_startArchive 69 = .ok (.getfield 82, 3) := by decide +kernel
theorem dX9_startArchive_72 : decode cX9_startArchive 72 = .ok (.getfield 435, 3) := by decide +kernel
theorem dX9_startArchive_75 : decode cX9_startArchive 75 = .ok (.aload_n 0, 1) := by decide +kernel
theorem dX9_startArchive_76 : decode cX9_startArchive 76 = .ok (.getfield 18, 3) := by decide +kernel
theorem dX9_startArchive_79 : decode cX9_startArchive 79 = .ok (.invokevirtual 438, 3) := by decide +kernel
theorem dX9_startArchive_82 : decode cX9_startArchive 82 = .ok (.iconst 1, 1) := by decide +kernel
theorem dX9_startArchive_83 : decode cX9_startArchive 83 = .ok (.ireturn, 1) := by decide +kernel
theorem dX9_endArchive_0 : decode cX9_endArchive 0 = .ok (.aload_n 0, 1) := by decide +kernel
theorem dX9_endArchive_1 : decode cX9_endArchive 1 = .ok (.invokevirtual 441, 3) := by decide +kernel
theorem dX9_endArchive_4 : decode cX9_endArchive 4 = .ok (.ifCond .ne 17, 3) := by decide +kernel
theorem dX9_endArchive_7 : decode cX9_endArchive 7 = .ok (.aload_n 0, 1) := by decide +kernel
theorem dX9_endArchive_8 : decode cX9_endArchive 8 = .ok (.bipush 58, 2) := by decide +kernel
theorem dX9_endArchive_10 : decode cX9_endArchive 10 = .ok (.iconst 1, 1) := by decide +kernel
theorem dX9_endArchive_11 : decode cX9_endArchive 11 = .ok (.iconst 2, 1) := by decide +kernel
theorem dX9_endArchive_12 : decode cX9_endArchive 12 = .ok (.bipush 11, 2) := by decide +kernel
theorem dX9_endArchive_14 : decode cX9_endArchive 14 = .ok (.invokevirtual 397, 3) := by decide +kernel
theorem dX9_endArchive_17 : decode cX9_endArchive 17 = .ok (.pop, 1) := by decide +kernel
theorem dX9_endArchive_18 : decode cX9_endArchive 18 = .ok (.goto 47, 3) := by decide +kernel
theorem dX9_endArchive_21 : decode cX9_endArchive 21 = .ok (.aload_n 0, 1) := by decide +kernel
theorem dX9_endArchive_22 : decode cX9_endArchive 22 = .ok (.bipush 57, 2) := by decide +kernel
theorem dX9_endArchive_24 : decode cX9_endArchive 24 = .ok (.iconst 0, 1) := by decide +kernel
theorem dX9_endArchive_25 : decode cX9_endArchive 25 = .ok (.iconst 2, 1) := by decide +kernel
theorem dX9_endArchive_26 : decode cX9_endArchive 26 = .ok (.iconst 5, 1) := by decide +kernel
theorem dX9_endArchive_27 : decode cX9_endArchive 27 = .ok (.invokevirtual 397, 3) := by decide +kernel
theorem dX9_endArchive_30 : decode cX9_endArchive 30 = .ok (.ifCond .eq 35, 3) := by decide +kernel
theorem dX9_endArchive_33 : decode cX9_endArchive 33 = .ok (.aload_n 0, 1) := by decide +kernel
theorem dX9_endArchive_34 : decode cX9_endArchive 34 = .ok (.getfield 61, 3) := by decide +kernel
theorem dX9_endArchive_37 : decode cX9_endArchive 37 = .ok (.invokevirtual 424, 3) := by decide +kernel
theorem dX9_endArchive_40 : decode cX9_endArchive 40 = .ok (.aload_n 0, 1) := by decide +kernel
theorem dX9_endArchive_41 : decode cX9_endArchive 41 = .ok (.getfield 82, 3) := by decide +kernel
theorem dX9_endArchive_44 : decode cX9_endArchive 44 = .ok (.getfield 427, 3) := by decide +kernel
theorem dX9_endArchive_47 : decode cX9_endArchive 47 = .ok (.isub, 1) := by decide +kernel
theorem dX9_endArchive_48 : decode cX9_endArchive 48 = .ok (.istore_n 1, 1) := by decide +kernel
theorem dX9_endArchive_49 : decode cX9_endArchive 49 = .ok (.aload_n 0, 1) := by decide +kernel
theorem dX9_endArchive_50 : decode cX9_endArchive 50 = .ok (.getfield 61, 3) := by decide +kernel
theorem dX9_endArchive_53 : decode cX9_endArchive 53 = .ok (.aload_n 0, 1) := by decide +kernel
theorem dX9_endArchive_54 : decode cX9_endArchive 54 = .ok (.getfield 82, 3) := by decide +kernel
theorem dX9_endArchive_57 : decode cX9_endArchive 57 = .ok (.getfield 435, 3) := by decide +kernel
theorem dX9_endArchive_60 : decode cX9_endArchive 60 = .ok (.iload_n 1, 1) := by decide +kernel
theorem dX9_endArchive_61 : decode cX9_endArchive 61 = .ok (.isub, 1) := by decide +kernel
theorem dX9_endArchive_62 : decode cX9_endArchive 62 = .ok (.invokevirtual 444, 3) := by decide +kernel
theorem dX9_endArchive_65 : decode cX9_endArchive 65 = .ok (.iconst 1, 1) := by decide +kernel
theorem dX9_endArchive_66 : decode cX9_endArchive 66 = .ok (.ireturn, 1) := by decide +kernel
theorem dX9_isArchiveOnDisk_0 : decode cX9_isArchiveOnDisk 0 = .ok (.aload_n 0, 1) := by decide +kernel
theorem dX9_isArchiveOnDisk_1 : decode cX9_isArchiveOnDisk 1 = .ok (.getfield 139, 3) := by decide +kernel
theorem dX9_isArchiveOnDisk_4 : decode cX9_isArchiveOnDisk 4 = .ok (.ifCond .eq 59, 3) := by decide +kernel
theorem dX9_isArchiveOnDisk_7 : decode cX9_isArchiveOnDisk 7 = .ok (.aload_n 0, 1) := by decide +kernel
theorem dX9_isArchiveOnDisk_8 : decode cX9_isArchiveOnDisk 8 = .ok (.getfield 61, 3) := by decide +kernel
theorem dX9_isArchiveOnDisk_11 : decode cX9_isArchiveOnDisk 11 = .ok (.invokevirtual 424, 3) := by decide +kernel
theorem dX9_isArchiveOnDisk_14 : decode cX9_isArchiveOnDisk 14 = .ok (.aload_n 0, 1) := by decide +kernel
theorem dX9_isArchiveOnDisk_15 : decode cX9_isArchiveOnDisk 15 = .ok (.getfield 82, 3) := by decide +kernel
theorem dX9_isArchiveOnDisk_18 : decode cX9_isArchiveOnDisk 18 = .ok (.getfield 427, 3) := by decide +kernel
theorem dX9_isArchiveOnDisk_21 : decode cX9_isArchiveOnDisk 21 = .ok (.if_icmp .ne 42, 3) := by decide +kernel
theorem dX9_isArchiveOnDisk_24 : decode cX9_isArchiveOnDisk 24 = .ok (.aload_n 0, 1) := by decide +kernel
theorem dX9_isArchiveOnDisk_25 : decode cX9_isArchiveOnDisk 25 = .ok (.getfield 18, 3) := by decide +kernel
theorem dX9_isArchiveOnDisk_28 : decode cX9_isArchiveOnDisk 28 = .ok (.iconst 0, 1) := by decide +kernel
theorem dX9_isArchiveOnDisk_29 : decode cX9_isArchiveOnDisk 29 = .ok (.invokevirtual 224, 3) := by decide +kernel
theorem dX9_isArchiveOnDisk_32 : decode cX9_isArchiveOnDisk 32 = .ok (.bipush 82, 2) := by decide +kernel
theorem dX9_isArchiveOnDisk_34 : decode cX9_isArchiveOnDisk 34 = .ok (.if_icmp .ne 29, 3) := by decide +kernel
theorem dX9_isArchiveOnDisk_37 : decode cX9_isArchiveOnDisk 37 = .ok (.aload_n 0, 1) := by decide +kernel
theorem dX9_isArchiveOnDisk_38 : decode cX9_isArchiveOnDisk 38 = .ok (.getfield 61, 3) := by decide +kernel
theorem dX9_isArchiveOnDisk_41 : decode cX9_isArchiveOnDisk 41 = .ok (.aload_n 0, 1) := by decide +kernel
theorem dX9_isArchiveOnDisk_42 : decode cX9_isArchiveOnDisk 42 = .ok (.getfield 82, 3) := by decide +kernel
theorem dX9_isArchiveOnDisk_45 : decode cX9_isArchiveOnDisk 45 = .ok (.getfield 435, 3) := by decide +kernel
theorem dX9_isArchiveOnDisk_48 : decode cX9_isArchiveOnDisk 48 = .ok (.aload_n 0, 1) := by decide +kernel
theorem dX9_isArchiveOnDisk_49 : decode cX9_isArchiveOnDisk 49 = .ok (.getfield 18, 3) := by decide +kernel
theorem dX9_isArchiveOnDisk_52 : decode cX9_isArchiveOnDisk 52 = .ok (.iconst 1, 1) := by decide +kernel
theorem dX9_isArchiveOnDisk_53 : decode cX9_isArchiveOnDisk 53 = .ok (.invokevirtual 447, 3) := by decide +kernel
theorem dX9_isArchiveOnDisk_56 : decode cX9_isArchiveOnDisk 56 = .ok (.ifCond .eq 7, 3) := by decide +kernel
theorem dX9_isArchiveOnDisk_59 : decode cX9_isArchiveOnDisk 59 = .ok (.iconst 1, 1) := by decide +kernel
theorem dX9_isArchiveOnDisk_60 : decode cX9_isArchiveOnDisk 60 = .ok (.goto 4, 3) := by decide +kernel
theorem dX9_isArchiveOnDisk_63 : decode cX9_isArchiveOnDisk 63 = .ok (.iconst 0, 1) := by decide +kernel
theorem dX9_isArchiveOnDisk_64 : decode cX9_isArchiveOnDisk 64 = .ok (.ireturn, 1) := by decide +kernel
theorem dX9_changeSettings_0 : decode cX9_changeSettings 0 = .ok (.aload_n 0, 1) := by decide +kernel
theorem dX9_changeSettings_1 : decode cX9_changeSettings 1 = .ok (.invokevirtual 451, 3) := by decide +kernel
theorem dX9_changeSettings_4 : decode cX9_changeSettings 4 = .ok (.ifCond .ne 17, 3) := by decide +kernel
theorem dX9_changeSettings_7 : decode cX9_changeSettings 7 = .ok (.aload_n 0, 1) := by decide +kernel
theorem dX9_changeSettings_8 : decode cX9_changeSettings 8 = .ok (.bipush 60, 2) := by decide +kernel
theorem dX9_changeSettings_10 : decode cX9_changeSettings 10 = .ok (.iconst 1, 1) := by decide +kernel
theorem dX9_changeSettings_11 : decode cX9_changeSettings 11 = .ok (.iconst 2, 1) := by decide +kernel
theorem dX9_changeSettings_12 : decode cX9_changeSettings 12 = .ok (.bipush 10, 2) := by decide +kernel
theorem dX9_changeSettings_14 : decode cX9_changeSettings 14 = .ok (.invokevirtual 397, 3) := by decide +kernel
theorem dX9_changeSettings_17 : decode cX9_changeSettings 17 = .ok (.pop, 1) := by decide +kernel
theorem dX9_changeSettings_18 : decode cX9_changeSettings 18 = .ok (.goto 40, 3) := by decide +kernel
theorem dX9_changeSettings_21 : decode cX9_changeSettings 21 = .ok (.aload_n 0, 1) := by decide +kernel
theorem dX9_changeSettings_22 : decode cX9_changeSettings 22 = .ok (.bipush 59, 2) := by decide +kernel
theorem dX9_changeSettings_24 : decode cX9_changeSettings 24 = .ok (.iconst 0, 1) := by decide +kernel
theorem dX9_changeSettings_25 : decode cX9_changeSettings 25 = .ok (.iconst 2, 1) := by decide +kernel
theorem dX9_changeSettings_26 : decode cX9_changeSettings 26 = .ok (.iconst 5, 1) := by decide +kernel
theorem dX9_changeSettings_27 : decode cX9_changeSettings 27 = .ok (.invokevirtual 397, 3) := by decide +kernel
theorem dX9_changeSettings_30 : decode cX9_changeSettings 30 = .ok (.ifCond .eq 28, 3) := by decide +kernel
theorem dX9_changeSettings_33 : decode cX9_changeSettings 33 = .ok (.iconst 0, 1) := by decide +kernel
theorem dX9_changeSettings_34 : decode cX9_changeSettings 34 = .ok (.istore_n 1, 1) := by decide +kernel
theorem dX9_changeSettings_35 : decode cX9_changeSettings 35 = .ok (.iload_n 1, 1) := by decide +kernel
theorem dX9_changeSettings_36 : decode cX9_changeSettings 36 = .ok (.bipush 9, 2) := by decide +kernel
theorem dX9_changeSettings_38 : decode cX9_changeSettings 38 = .ok (.if_icmp .ge 20, 3) := by decide +kernel
theorem dX9_changeSettings_41 : decode cX9_changeSettings 41 = .ok (.aload_n 0, 1) := by decide +kernel
theorem dX9_changeSettings_42 : decode cX9_changeSettings 42 = .ok (.getfield 40, 3) := by decide +kernel
theorem dX9_changeSettings_45 : decode cX9_changeSettings 45 = .ok (.iload_n 1, 1) := by decide +kernel
theorem dX9_changeSettings_46 : decode cX9_changeSettings 46 = .ok (.aload_n 0, 1) := by decide +kernel
theorem dX9_changeSettings_47 : decode cX9_changeSettings 47 = .ok (.iload_n 1, 1) := by decide +kernel
theorem dX9_changeSettings_48 : decode cX9_changeSettings 48 = .ok (.invokevirtual 454, 3) := by decide +kernel
theorem dX9_changeSettings_51 : decode cX9_changeSettings 51 = .ok (.iastore, 1) := by decide +kernel
theorem dX9_changeSettings_52 : decode cX9_changeSettings 52 = .ok (.iinc 1 1, 3) := by decide +kernel
theorem dX9_changeSettings_55 : decode cX9_changeSettings 55 = .ok (.goto (-20), 3) := by decide +kernel
theorem dX9_changeSettings_58 : decode cX9_changeSettings 58 = .ok (.iconst 1, 1) := by decide +kernel
theorem dX9_changeSettings_59 : decode cX9_changeSettings 59 = .ok (.ireturn, 1) := by decide +kernel
theorem dX9_areSettingsOnDisk_0 : decode cX9_areSettingsOnDisk 0 = .ok (.aload_n 0, 1) := by decide +kernel
theorem dX9_areSettingsOnDisk_1 : decode cX9_areSettingsOnDisk 1 = .ok (.getfield 18, 3) := by decide +kernel
theorem dX9_areSettingsOnDisk_4 : decode cX9_areSettingsOnDisk 4 = .ok (.getfield 103, 3) := by decide +kernel
theorem dX9_areSettingsOnDisk_7 : decode cX9_areSettingsOnDisk 7 = .ok (.bipush 17, 2) := by decide +kernel
theorem dX9_areSettingsOnDisk_9 : decode cX9_areSettingsOnDisk 9 = .ok (.if_icmp .ne 16, 3) := by decide +kernel
theorem dX9_areSettingsOnDisk_12 : decode cX9_areSettingsOnDisk 12 = .ok (.aload_n 0, 1) := by decide +kernel
theorem dX9_areSettingsOnDisk_13 : decode cX9_areSettingsOnDisk 13 = .ok (.getfield 18, 3) := by decide +kernel
theorem dX9_areSettingsOnDisk_16 : decode cX9_areSettingsOnDisk 16 = .ok (.iconst 0, 1) := by decide +kernel
theorem dX9_areSettingsOnDisk_17 : decode cX9_areSettingsOnDisk 17 = .ok (.invokevirtual 224, 3) := by decide +kernel
theorem dX9_areSettingsOnDisk_20 : decode cX9_areSettingsOnDisk 20 = .ok (.bipush 83, 2) := by decide +kernel
theorem dX9_areSettingsOnDisk_22 : decode cX9_areSettingsOnDisk 22 = .ok (.if_icmp .eq 5, 3) := by decide +kernel
theorem dX9_areSettingsOnDisk_25 : decode cX9_areSettingsOnDisk 25 = .ok (.iconst 0, 1) := by decide +kernel
theorem dX9_areSettingsOnDisk_26 : decode cX9_areSettingsOnDisk 26 = .ok (.ireturn, 1) := by decide +kernel
theorem dX9_areSettingsOnDisk_27 : decode cX9_areSettingsOnDisk 27 = .ok (.iconst 0, 1) := by decide +kernel
theorem dX9_areSettingsOnDisk_28 : decode cX9_areSettingsOnDisk 28 = .ok (.istore_n 1, 1) := by decide +kernel
theorem dX9_areSettingsOnDisk_29 : decode cX9_areSettingsOnDisk 29 = .ok (.iload_n 1, 1) := by decide +kernel
theorem dX9_areSettingsOnDisk_30 : decode cX9_areSettingsOnDisk 30 = .ok (.bipush 9, 2) := by decide +kernel
theorem dX9_areSettingsOnDisk_32 : decode cX9_areSettingsOnDisk 32 = .ok (.if_icmp .ge 35, 3) := by decide +kernel
theorem dX9_areSettingsOnDisk_35 : decode cX9_areSettingsOnDisk 35 = .ok (.aload_n 0, 1) := by decide +kernel
theorem dX9_areSettingsOnDisk_36 : decode cX9_areSettingsOnDisk 36 = .ok (.iload_n 1, 1) := by decide +kernel
theorem dX9_areSettingsOnDisk_37 : decode cX9_areSettingsOnDisk 37 = .ok (.invokevirtual 454, 3) := by decide +kernel
theorem dX9_areSettingsOnDisk_40 : decode cX9_areSettingsOnDisk 40 = .ok (.istore_n 2, 1) := by decide +kernel
theorem dX9_areSettingsOnDisk_41 : decode cX9_areSettingsOnDisk 41 = .ok (.iload_n 2, 1) := by decide +kernel
theorem dX9_areSettingsOnDisk_42 : decode cX9_areSettingsOnDisk 42 = .ok (.getstatic 457, 3) := by decide +kernel
theorem dX9_areSettingsOnDisk_45 : decode cX9_areSettingsOnDisk 45 = .ok (.iload_n 1, 1) := by decide +kernel
theorem dX9_areSettingsOnDisk_46 : decode cX9_areSettingsOnDisk 46 = .ok (.iaload, 1) := by decide +kernel
theorem dX9_areSettingsOnDisk_47 : decode cX9_areSettingsOnDisk 47 = .ok (.if_icmp .lt 12, 3) := by decide +kernel
theorem dX9_areSettingsOnDisk_50 : decode cX9_areSettingsOnDisk 50 = .ok (.iload_n 2, 1) := by decide +kernel
theorem dX9_areSettingsOnDisk_51 : decode cX9_areSettingsOnDisk 51 = .ok (.getstatic 460, 3) := by decide +kernel
theorem dX9_areSettingsOnDisk_54 : decode cX9_areSettingsOnDisk 54 = .ok (.iload_n 1, 1) := by decide +kernel
theorem dX9_areSettingsOnDisk_55 : decode cX9_areSettingsOnDisk 55 = .ok (.iaload, 1) := by decide +kernel
theorem dX9_areSettingsOnDisk_56 : decode cX9_areSettingsOnDisk 56 = .ok (.if_icmp .le 5, 3) := by decide +kernel
theorem dX9_areSettingsOnDisk_59 : decode cX9_areSettingsOnDisk 59 = .ok (.iconst 0, 1) := by decide +kernel
theorem dX9_areSettingsOnDisk_60 : decode cX9_areSettingsOnDisk 60 = .ok (.ireturn, 1) := by decide +kernel
theorem dX9_areSettingsOnDisk_61 : decode cX9_areSettingsOnDisk 61 = .ok (.iinc 1 1, 3) := by decide +kernel
theorem dX9_areSettingsOnDisk_64 : decode cX9_areSettingsOnDisk 64 = .ok (.goto (-35), 3) := by decide +kernel
theorem dX9_areSettingsOnDisk_67 : decode cX9_areSettingsOnDisk 67 = .ok (.iconst 1, 1) := by decide +kernel
theorem dX9_areSettingsOnDisk_68 : decode cX9_areSettingsOnDisk 68 = .ok (.ireturn, 1) := by decide +kernel
theorem dX9_settingOnDisk_0 : decode cX9_settingOnDisk 0 = .ok (.iload_n 1, 1) := by decide +kernel
theorem dX9_settingOnDisk_1 : decode cX9_settingOnDisk 1 = .ok (.iconst 5, 1) := by decide +kernel
theorem dX9_settingOnDisk_2 : decode cX9_settingOnDisk 2 = .ok (.if_icmp .eq 9, 3) := by decide +kernel
theorem dX9_settingOnDisk_5 : decode cX9_settingOnDisk 5 = .ok (.iload_n 1, 1) := by decide +kernel
theorem dX9_settingOnDisk_6 : decode cX9_settingOnDisk 6 = .ok (.bipush 6, 2) := by decide +kernel
theorem dX9_settingOnDisk_8 : decode cX9_settingOnDisk 8 = .ok (.if_icmp .ne 7, 3) := by decide +kernel
theorem dX9_settingOnDisk_11 : decode cX9_settingOnDisk 11 = .ok (.iconst 1, 1) := by decide +kernel
theorem dX9_settingOnDisk_12 : decode cX9_settingOnDisk 12 = .ok (.goto 4, 3) := by decide +kernel
theorem dX9_settingOnDisk_15 : decode cX9_settingOnDisk 15 = .ok (.iconst 0, 1) := by decide +kernel
theorem dX9_settingOnDisk_16 : decode cX9_settingOnDisk 16 = .ok (.istore_n 2, 1) := by decide +kernel
theorem dX9_settingOnDisk_17 : decode cX9_settingOnDisk 17 = .ok (.iload_n 2, 1) := by decide +kernel
theorem dX9_settingOnDisk_18 : decode cX9_settingOnDisk 18 = .ok (.ifCond .eq 18, 3) := by decide +kernel
theorem dX9_settingOnDisk_21 : decode cX9_settingOnDisk 21 = .ok (.aload_n 0, 1) := by decide +kernel
theorem dX9_settingOnDisk_22 : decode cX9_settingOnDisk 22 = .ok (.getfield 18, 3) := by decide +kernel
theorem dX9_settingOnDisk_25 : decode cX9_settingOnDisk 25 = .ok (.getstatic 463, 3) := by decide +kernel
theorem dX9_settingOnDisk_28 : decode cX9_settingOnDisk 28 = .ok (.iload_n 1, 1) := by decide +kernel
theorem dX9_settingOnDisk_29 : decode cX9_settingOnDisk 29 = .ok (.iaload, 1) := by decide +kernel
theorem dX9_settingOnDisk_30 : decode cX9_settingOnDisk 30 = .ok (.invokevirtual 224, 3) := by decide +kernel
theorem dX9_settingOnDisk_33 : decode cX9_settingOnDisk 33 = .ok (.goto 15, 3) := by decide +kernel
theorem dX9_settingOnDisk_36 : decode cX9_settingOnDisk 36 = .ok (.aload_n 0, 1) := by decide +kernel
theorem dX9_settingOnDisk_37 : decode cX9_settingOnDisk 37 = .ok (.getfield 18, 3) := by decide +kernel
theorem dX9_settingOnDisk_40 : decode cX9_settingOnDisk 40 = .ok (.getstatic 463, 3) := by decide +kernel
theorem dX9_settingOnDisk_43 : decode cX9_settingOnDisk 43 = .ok (.iload_n 1, 1) := by decide +kernel
theorem dX9_settingOnDisk_44 : decode cX9_settingOnDisk 44 = .ok (.iaload, 1) := by decide +kernel
theorem dX9_settingOnDisk_45 : decode cX9_settingOnDisk 45 = .ok (.invokevirtual 340, 3) := by decide +kernel
theorem dX9_settingOnDisk_48 : decode cX9_settingOnDisk 48 = .ok (.ireturn, 1) := by decide +kernel
theorem dX9_unlock_0 : decode cX9_unlock 0 = .ok (.aload_n 0, 1) := by decide +kernel
theorem dX9_unlock_1 : decode cX9_unlock 1 = .ok (.aload_n 0, 1) := by decide +kernel
theorem dX9_unlock_2 : decode cX9_unlock 2 = .ok (.getfield 82, 3) := by decide +kernel
theorem dX9_unlock_5 : decode cX9_unlock 5 = .ok (.getfield 250, 3) := by decide +kernel
theorem dX9_unlock_8 : decode cX9_unlock 8 = .ok (.bipush 61, 2) := by decide +kernel
theorem dX9_unlock_10 : decode cX9_unlock 10 = .ok (.iconst 0, 1) := by decide +kernel
theorem dX9_unlock_11 : decode cX9_unlock 11 = .ok (.invokevirtual 356, 3) := by decide +kernel
theorem dX9_unlock_14 : decode cX9_unlock 14 = .ok (.ifCond .eq 19, 3) := by decide +kernel
theorem dX9_unlock_17 : decode cX9_unlock 17 = .ok (.aload_n 0, 1) := by decide +kernel
theorem dX9_unlock_18 : decode cX9_unlock 18 = .ok (.bipush 22, 2) := by decide +kernel
theorem dX9_unlock_20 : decode cX9_unlock 20 = .ok (.iconst 0, 1) := by decide +kernel
theorem dX9_unlock_21 : decode cX9_unlock 21 = .ok (.iconst 2, 1) := by decide +kernel
theorem dX9_unlock_22 : decode cX9_unlock 22 = .ok (.iconst 5, 1) := by decide +kernel
theorem dX9_unlock_23 : decode cX9_unlock 23 = .ok (.invokevirtual 397, 3) := by decide +kernel
theorem dX9_unlock_26 : decode cX9_unlock 26 = .ok (.ifCond .eq 7, 3) := by decide +kernel
theorem dX9_unlock_29 : decode cX9_unlock 29 = .ok (.aload_n 0, 1) := by decide +kernel
theorem dX9_unlock_30 : decode cX9_unlock 30 = .ok (.invokevirtual 360, 3) := by decide +kernel
theorem dX9_unlock_33 : decode cX9_unlock 33 = .ok (.iconst 1, 1) := by decide +kernel
theorem dX9_unlock_34 : decode cX9_unlock 34 = .ok (.ireturn, 1) := by decide +kernel
theorem dX9_shutDown_0 : decode cX9_shutDown 0 = .ok (.aload_n 0, 1) := by decide +kernel
theorem dX9_shutDown_1 : decode cX9_shutDown 1 = .ok (.getfield 133, 3) := by decide +kernel
theorem dX9_shutDown_4 : decode cX9_shutDown 4 = .ok (.ifCond .eq 15, 3) := by decide +kernel
theorem dX9_shutDown_7 : decode cX9_shutDown 7 = .ok (.aload_n 0, 1) := by decide +kernel
theorem dX9_shutDown_8 : decode cX9_shutDown 8 = .ok (.bipush 63, 2) := by decide +kernel
theorem dX9_shutDown_10 : decode cX9_shutDown 10 = .ok (.iconst 1, 1) := by decide +kernel
theorem dX9_shutDown_11 : decode cX9_shutDown 11 = .ok (.iconst 2, 1) := by decide +kernel
theorem dX9_shutDown_12 : decode cX9_shutDown 12 = .ok (.iconst 5, 1) := by decide +kernel
theorem dX9_shutDown_13 : decode cX9_shutDown 13 = .ok (.invokevirtual 397, 3) := by decide +kernel
theorem dX9_shutDown_16 : decode cX9_shutDown 16 = .ok (.pop, 1) := by decide +kernel
theorem dX9_shutDown_17 : decode cX9_shutDown 17 = .ok (.iconst 1, 1) := by decide +kernel
theorem dX9_shutDown_18 : decode cX9_shutDown 18 = .ok (.ireturn, 1) := by decide +kernel
theorem dX9_shutDown_19 : decode cX9_shutDown 19 = .ok (.aload_n 0, 1) := by decide +kernel
theorem dX9_shutDown_20 : decode cX9_shutDown 20 = .ok (.getfield 68, 3) := by decide +kernel
theorem dX9_shutDown_23 : decode cX9_shutDown 23 = .ok (.getfield 185, 3) := by decide +kernel
theorem dX9_shutDown_26 : decode cX9_shutDown 26 = .ok (.ifCond .eq 13, 3) := by decide +kernel
theorem dX9_shutDown_29 : decode cX9_shutDown 29 = .ok (.aload_n 0, 1) := by decide +kernel
theorem dX9_shutDown_30 : decode cX9_shutDown 30 = .ok (.bipush 23, 2) := by decide +kernel
theorem dX9_shutDown_32 : decode cX9_shutDown 32 = .ok (.iconst 0, 1) := by decide +kernel
theorem dX9_shutDown_33 : decode cX9_shutDown 33 = .ok (.invokevirtual 254, 3) := by decide +kernel
theorem dX9_shutDown_36 : decode cX9_shutDown 36 = .ok (.ifCond .eq 7, 3) := by decide +kernel
theorem dX9_shutDown_39 : decode cX9_shutDown 39 = .ok (.iconst 1, 1) := by decide +kernel
theorem dX9_shutDown_40 : decode cX9_shutDown 40 = .ok (.goto 4, 3) := by decide +kernel
theorem dX9_shutDown_43 : decode cX9_shutDown 43 = .ok (.iconst 0, 1) := by decide +kernel
theorem dX9_shutDown_44 : decode cX9_shutDown 44 = .ok (.istore_n 1, 1) := by decide +kernel
theorem dX9_shutDown_45 : decode cX9_shutDown 45 = .ok (.iload_n 1, 1) := by decide +kernel
theorem dX9_shutDown_46 : decode cX9_shutDown 46 = .ok (.ifCond .eq 57, 3) := by decide +kernel
theorem dX9_shutDown_49 : decode cX9_shutDown 49 = .ok (.aload_n 0, 1) := by decide +kernel
theorem dX9_shutDown_50 : decode cX9_shutDown 50 = .ok (.bipush 62, 2) := by decide +kernel
theorem dX9_shutDown_52 : decode cX9_shutDown 52 = .ok (.iconst 0, 1) := by decide +kernel
theorem dX9_shutDown_53 : decode cX9_shutDown 53 = .ok (.bipush 7, 2) := by decide +kernel
theorem dX9_shutDown_55 : decode cX9_shutDown 55 = .ok (.bipush 12, 2) := by decide +kernel
theorem dX9_shutDown_57 : decode cX9_shutDown 57 = .ok (.invokevirtual 397, 3) := by decide +kernel
theorem dX9_shutDown_60 : decode cX9_shutDown 60 = .ok (.ifCond .eq 43, 3) := by decide +kernel
theorem dX9_shutDown_63 : decode cX9_shutDown 63 = .ok (.aload_n 0, 1) := by decide +kernel
theorem dX9_shutDown_64 : decode cX9_shutDown 64 = .ok (.getfield 68, 3) := by decide +kernel
theorem dX9_shutDown_67 : decode cX9_shutDown 67 = .ok (.iconst 0, 1) := by decide +kernel
theorem dX9_shutDown_68 : decode cX9_shutDown 68 = .ok (.putfield 185, 3) := by decide +kernel
theorem dX9_shutDown_71 : decode cX9_shutDown 71 = .ok (.aload_n 0, 1) := by decide +kernel
theorem dX9_shutDown_72 : decode cX9_shutDown 72 = .ok (.getfield 68, 3) := by decide +kernel
theorem dX9_shutDown_75 : decode cX9_shutDown 75 = .ok (.iconst 0, 1) := by decide +kernel
theorem dX9_shutDown_76 : decode cX9_shutDown 76 = .ok (.putfield 188, 3) := by decide +kernel
theorem dX9_shutDown_79 : decode cX9_shutDown 79 = .ok (.aload_n 0, 1) := by decide +kernel
theorem dX9_shutDown_80 : decode cX9_shutDown 80 = .ok (.getfield 75, 3) := by decide +kernel
theorem dX9_shutDown_83 : decode cX9_shutDown 83 = .ok (.iconst 0, 1) := by decide +kernel
theorem dX9_shutDown_84 : decode cX9_shutDown 84 = .ok (.putfield 168, 3) := by decide +kernel
theorem dX9_shutDown_87 : decode cX9_shutDown 87 = .ok (.aload_n 0, 1) := by decide +kernel
theorem dX9_shutDown_88 : decode cX9_shutDown 88 = .ok (.getfield 75, 3) := by decide +kernel
theorem dX9_shutDown_91 : decode cX9_shutDown 91 = .ok (.iconst 0, 1) := by decide +kernel
theorem dX9_shutDown_92 : decode cX9_shutDown 92 = .ok (.putfield 192, 3) := by decide +kernel
theorem dX9_shutDown_95 : decode cX9_shutDown 95 = .ok (.aload_n 0, 1) := by decide +kernel
theorem dX9_shutDown_96 : decode cX9_shutDown 96 = .ok (.getfield 82, 3) := by decide +kernel
theorem dX9_shutDown_99 : decode cX9_shutDown 99 = .ok (.iconst (-1), 1) := by decide +kernel
theorem dX9_shutDown_100 : decode cX9_shutDown 100 = .ok (.putfield 198, 3) := by decide +kernel
theorem dX9_shutDown_103 : decode cX9_shutDown 103 = .ok (.iconst 1, 1) := by decide +kernel
theorem dX9_shutDown_104 : decode cX9_shutDown 104 = .ok (.ireturn, 1) := by decide +kernel
theorem dX9_restart_0 : decode cX9_restart 0 = .ok (.aload_n 0, 1) := by decide +kernel
theorem dX9_restart_1 : decode cX9_restart 1 = .ok (.getfield 54, 3) := by decide +kernel
theorem dX9_restart_4 : decode cX9_restart 4 = .ok (.invokevirtual 266, 3) := by decide +kernel
theorem dX9_restart_7 : decode cX9_restart 7 = .ok (.istore_n 1, 1) := by decide +kernel
theorem dX9_restart_8 : decode cX9_restart 8 = .ok (.aload_n 0, 1) := by decide +kernel
theorem dX9_restart_9 : decode cX9_restart 9 = .ok (.getfield 68, 3) := by decide +kernel
theorem dX9_restart_12 : decode cX9_restart 12 = .ok (.iconst 0, 1) := by decide +kernel
theorem dX9_restart_13 : decode cX9_restart 13 = .ok (.putfield 185, 3) := by decide +kernel
theorem dX9_restart_16 : decode cX9_restart 16 = .ok (.aload_n 0, 1) := by decide +kernel
theorem dX9_restart_17 : decode cX9_restart 17 = .ok (.getfield 68, 3) := by decide +kernel
theorem dX9_restart_20 : decode cX9_restart 20 = .ok (.iconst 0, 1) := by decide +kernel
theorem dX9_restart_21 : decode cX9_restart 21 = .ok (.putfield 188, 3) := by decide +kernel
theorem dX9_restart_24 : decode cX9_restart 24 = .ok (.aload_n 0, 1) := by decide +kernel
theorem dX9_restart_25 : decode cX9_restart 25 = .ok (.getfield 68, 3) := by decide +kernel
theorem dX9_restart_28 : decode cX9_restart 28 = .ok (.aload_n 0, 1) := by decide +kernel
theorem dX9_restart_29 : decode cX9_restart 29 = .ok (.getfield 147, 3) := by decide +kernel
theorem dX9_restart_32 : decode cX9_restart 32 = .ok (.putfield 260, 3) := by decide +kernel
theorem dX9_restart_35 : decode cX9_restart 35 = .ok (.aload_n 0, 1) := by decide +kernel
theorem dX9_restart_36 : decode cX9_restart 36 = .ok (.aload_n 0, 1) := by decide +kernel
theorem dX9_restart_37 : decode cX9_restart 37 = .ok (.getfield 133, 3) := by decide +kernel
theorem dX9_restart_40 : decode cX9_restart 40 = .ok (.putfield 251, 3) := by decide +kernel
theorem dX9_restart_43 : decode cX9_restart 43 = .ok (.aload_n 0, 1) := by decide +kernel
theorem dX9_restart_44 : decode cX9_restart 44 = .ok (.getfield 75, 3) := by decide +kernel
theorem dX9_restart_47 : decode cX9_restart 47 = .ok (.iconst 0, 1) := by decide +kernel
theorem dX9_restart_48 : decode cX9_restart 48 = .ok (.putfield 168, 3) := by decide +kernel
theorem dX9_restart_51 : decode cX9_restart 51 = .ok (.aload_n 0, 1) := by decide +kernel
theorem dX9_restart_52 : decode cX9_restart 52 = .ok (.getfield 75, 3) := by decide +kernel
theorem dX9_restart_55 : decode cX9_restart 55 = .ok (.iload_n 1, 1) := by decide +kernel
theorem dX9_restart_56 : decode cX9_restart 56 = .ok (.ifCond .eq 7, 3) := by decide +kernel
theorem dX9_restart_59 : decode cX9_restart 59 = .ok (.iconst 1, 1) := by decide +kernel
theorem dX9_restart_60 : decode cX9_restart 60 = .ok (.goto 4, 3) := by decide +kernel
theorem dX9_restart_63 : decode cX9_restart 63 = .ok (.iconst 0, 1) := by decide +kernel
theorem dX9_restart_64 : decode cX9_restart 64 = .ok (.putfield 192, 3) := by decide +kernel
theorem dX9_restart_67 : decode cX9_restart 67 = .ok (.aload_n 0, 1) := by decide +kernel
theorem dX9_restart_68 : decode cX9_restart 68 = .ok (.getfield 82, 3) := by decide +kernel
theorem dX9_restart_71 : decode cX9_restart 71 = .ok (.iload_n 1, 1) := by decide +kernel
theorem dX9_restart_72 : decode cX9_restart 72 = .ok (.ifCond .eq 7, 3) := by decide +kernel
theorem dX9_restart_75 : decode cX9_restart 75 = .ok (.iconst 2, 1) := by decide +kernel
theorem dX9_restart_76 : decode cX9_restart 76 = .ok (.goto 4, 3) := by decide +kernel
theorem dX9_restart_79 : decode cX9_restart 79 = .ok (.iconst 0, 1) := by decide +kernel
theorem dX9_restart_80 : decode cX9_restart 80 = .ok (.putfield 156, 3) := by decide +kernel
theorem dX9_restart_83 : decode cX9_restart 83 = .ok (.aload_n 0, 1) := by decide +kernel
theorem dX9_restart_84 : decode cX9_restart 84 = .ok (.getfield 82, 3) := by decide +kernel
theorem dX9_restart_87 : decode cX9_restart 87 = .ok (.iload_n 1, 1) := by decide +kernel
theorem dX9_restart_88 : decode cX9_restart 88 = .ok (.ifCond .eq 7, 3) := by decide +kernel
theorem dX9_restart_91 : decode cX9_restart 91 = .ok (.iconst 1, 1) := by decide +kernel
theorem dX9_restart_92 : decode cX9_restart 92 = .ok (.goto 5, 3) := by decide +kernel
theorem dX9_restart_95 : decode cX9_restart 95 = .ok (.bipush 8, 2) := by decide +kernel
theorem dX9_restart_97 : decode cX9_restart 97 = .ok (.putfield 195, 3) := by decide +kernel
theorem dX9_restart_100 : decode cX9_restart 100 = .ok (.aload_n 0, 1) := by decide +kernel
theorem dX9_restart_101 : decode cX9_restart 101 = .ok (.getfield 82, 3) := by decide +kernel
theorem dX9_restart_104 : decode cX9_restart 104 = .ok (.iconst (-1), 1) := by decide +kernel
theorem dX9_restart_105 : decode cX9_restart 105 = .ok (.putfield 198, 3) := by decide +kernel
theorem dX9_restart_108 : decode cX9_restart 108 = .ok (.iload_n 1, 1) := by decide +kernel
theorem dX9_restart_109 : decode cX9_restart 109 = .ok (.ifCond .eq 11, 3) := by decide +kernel
theorem dX9_restart_112 : decode cX9_restart 112 = .ok (.aload_n 0, 1) := by decide +kernel
theorem dX9_restart_113 : decode cX9_restart 113 = .ok (.bipush 70, 2) := by decide +kernel
theorem dX9_restart_115 : decode cX9_restart 115 = .ok (.iconst 1, 1) := by decide +kernel
theorem dX9_restart_116 : decode cX9_restart 116 = .ok (.invokevirtual 254, 3) := by decide +kernel
theorem dX9_restart_119 : decode cX9_restart 119 = .ok (.pop, 1) := by decide +kernel
theorem dX9_restart_120 : decode cX9_restart 120 = .ok (.return_, 1) := by decide +kernel
theorem dX10_init_0 : decode cX10_init 0 = .ok (.aload_n 0, 1) := by decide +kernel
theorem dX10_init_1 : decode cX10_init 1 = .ok (.invokespecial 1, 3) := by decide +kernel
theorem dX10_init_4 : decode cX10_init 4 = .ok (.aload_n 0, 1) := by decide +kernel
theorem dX10_init_5 : decode cX10_init 5 = .ok (.sipush 400, 3) := by decide +kernel
theorem dX10_init_8 : decode cX10_init 8 = .ok (.newarray .byte, 2) := by decide +kernel
theorem dX10_init_10 : decode cX10_init 10 = .ok (.putfield 7, 3) := by decide +kernel
theorem dX10_init_13 : decode cX10_init 13 = .ok (.aload_n 0, 1) := by decide +kernel
theorem dX10_init_14 : decode cX10_init 14 = .ok (.bipush 64, 2) := by decide +kernel
theorem dX10_init_16 : decode cX10_init 16 = .ok (.newarray .int, 2) := by decide +kernel
theorem dX10_init_18 : decode cX10_init 18 = .ok (.putfield 13, 3) := by decide +kernel
theorem dX10_init_21 : decode cX10_init 21 = .ok (.aload_n 0, 1) := by decide +kernel
theorem dX10_init_22 : decode cX10_init 22 = .ok (.bipush 64, 2) := by decide +kernel
theorem dX10_init_24 : decode cX10_init 24 = .ok (.newarray .int, 2) := by decide +kernel
theorem dX10_init_26 : decode cX10_init 26 = .ok (.putfield 17, 3) := by decide +kernel
theorem dX10_init_29 : decode cX10_init 29 = .ok (.aload_n 0, 1) := by decide +kernel
theorem dX10_init_30 : decode cX10_init 30 = .ok (.bipush 8, 2) := by decide +kernel
theorem dX10_init_32 : decode cX10_init 32 = .ok (.newarray .int, 2) := by decide +kernel
theorem dX10_init_34 : decode cX10_init 34 = .ok (.putfield 20, 3) := by decide +kernel
theorem dX10_init_37 : decode cX10_init 37 = .ok (.aload_n 0, 1) := by decide +kernel
theorem dX10_init_38 : decode cX10_init 38 = .ok (.bipush 8, 2) := by decide +kernel
theorem dX10_init_40 : decode cX10_init 40 = .ok (.newarray .int, 2) := by decide +kernel
theorem dX10_init_42 : decode cX10_init 42 = .ok (.putfield 23, 3) := by decide +kernel
theorem dX10_init_45 : decode cX10_init 45 = .ok (.aload_n 0, 1) := by decide +kernel
theorem dX10_init_46 : decode cX10_init 46 = .ok (.bipush 64, 2) := by decide +kernel
theorem dX10_init_48 : decode cX10_init 48 = .ok (.newarray .int, 2) := by decide +kernel
theorem dX10_init_50 : decode cX10_init 50 = .ok (.putfield 26, 3) := by decide +kernel
theorem dX10_init_53 : decode cX10_init 53 = .ok (.aload_n 0, 1) := by decide +kernel
theorem dX10_init_54 : decode cX10_init 54 = .ok (.bipush 64, 2) := by decide +kernel
theorem dX10_init_56 : decode cX10_init 56 = .ok (.newarray .byte, 2) := by decide +kernel
theorem dX10_init_58 : decode cX10_init 58 = .ok (.putfield 29, 3) := by decide +kernel
theorem dX10_init_61 : decode cX10_init 61 = .ok (.aload_n 0, 1) := by decide +kernel
theorem dX10_init_62 : decode cX10_init 62 = .ok (.bipush 32, 2) := by decide +kernel
theorem dX10_init_64 : decode cX10_init 64 = .ok (.newarray .byte, 2) := by decide +kernel
theorem dX10_init_66 : decode cX10_init 66 = .ok (.putfield 32, 3) := by decide +kernel
theorem dX10_init_69 : decode cX10_init 69 = .ok (.aload_n 0, 1) := by decide +kernel
theorem dX10_init_70 : decode cX10_init 70 = .ok (.bipush 32, 2) := by decide +kernel
theorem dX10_init_72 : decode cX10_init 72 = .ok (.newarray .byte, 2) := by decide +kernel
theorem dX10_init_74 : decode cX10_init 74 = .ok (.putfield 35, 3) := by decide +kernel
theorem dX10_init_77 : decode cX10_init 77 = .ok (.aload_n 0, 1) := by decide +kernel
theorem dX10_init_78 : decode cX10_init 78 = .ok (.bipush 16, 2) := by decide +kernel
theorem dX10_init_80 : decode cX10_init 80 = .ok (.newarray .byte, 2) := by decide +kernel
theorem dX10_init_82 : decode cX10_init 82 = .ok (.putfield 38, 3) := by decide +kernel
theorem dX10_init_85 : decode cX10_init 85 = .ok (.aload_n 0, 1) := by decide +kernel
theorem dX10_init_86 : decode cX10_init 86 = .ok (.sipush 3072, 3) := by decide +kernel
theorem dX10_init_89 : decode cX10_init 89 = .ok (.newarray .byte, 2) := by decide +kernel
theorem dX10_init_91 : decode cX10_init 91 = .ok (.putfield 41, 3) := by decide +kernel
theorem dX10_init_94 : decode cX10_init 94 = .ok (.aload_n 0, 1) := by decide +kernel
theorem dX10_init_95 : decode cX10_init 95 = .ok (.bipush 64, 2) := by decide +kernel
theorem dX10_init_97 : decode cX10_init 97 = .ok (.newarray .int, 2) := by decide +kernel
theorem dX10_init_99 : decode cX10_init 99 = .ok (.putfield 44, 3) := by decide +kernel
theorem dX10_init_102 : decode cX10_init 102 = .ok (.aload_n 0, 1) := by decide +kernel
theorem dX10_init_103 : decode cX10_init 103 = .ok (.bipush 16, 2) := by decide +kernel
theorem dX10_init_105 : decode cX10_init 105 = .ok (.newarray .boolean, 2) := by decide +kernel
theorem dX10_init_107 : decode cX10_init 107 = .ok (.putfield 47, 3) := by decide +kernel
theorem dX10_init_110 : decode cX10_init 110 = .ok (.aload_n 0, 1) := by decide +kernel
theorem dX10_init_111 : decode cX10_init 111 = .ok (.bipush 7, 2) := by decide +kernel
theorem dX10_init_113 : decode cX10_init 113 = .ok (.newarray .int, 2) := by decide +kernel
theorem dX10_init_115 : decode cX10_init 115 = .ok (.putfield 51, 3) := by decide +kernel
theorem dX10_init_118 : decode cX10_init 118 = .ok (.aload_n 0, 1) := by decide +kernel
theorem dX10_init_119 : decode cX10_init 119 = .ok (.bipush 112, 2) := by decide +kernel
theorem dX10_init_121 : decode cX10_init 121 = .ok (.newarray .byte, 2) := by decide +kernel
theorem dX10_init_123 : decode cX10_init 123 = .ok (.putfield 54, 3) := by decide +kernel
theorem dX10_init_126 : decode cX10_init 126 = .ok (.aload_n 0, 1) := by decide +kernel
theorem dX10_init_127 : decode cX10_init 127 = .ok (.sipush 400, 3) := by decide +kernel
theorem dX10_init_130 : decode cX10_init 130 = .ok (.newarray .byte, 2) := by decide +kernel
theorem dX10_init_132 : decode cX10_init 132 = .ok (.putfield 57, 3) := by decide +kernel
theorem dX10_init_135 : decode cX10_init 135 = .ok (.aload_n 0, 1) := by decide +kernel
theorem dX10_init_136 : decode cX10_init 136 = .ok (.sipush 1552, 3) := by decide +kernel
theorem dX10_init_139 : decode cX10_init 139 = .ok (.newarray .byte, 2) := by decide +kernel
theorem dX10_init_141 : decode cX10_init 141 = .ok (.putfield 60, 3) := by decide +kernel
theorem dX10_init_144 : decode cX10_init 144 = .ok (.aload_n 0, 1) := by decide +kernel
theorem dX10_init_145 : decode cX10_init 145 = .ok (.bipush 9, 2) := by decide +kernel
theorem dX10_init_147 : decode cX10_init 147 = .ok (.newarray .int, 2) := by decide +kernel
theorem dX10_init_149 : decode cX10_init 149 = .ok (.putfield 63, 3) := by decide +kernel
theorem dX10_init_152 : decode cX10_init 152 = .ok (.aload_n 0, 1) := by decide +kernel
theorem dX10_init_153 : decode cX10_init 153 = .ok (.sipush 385, 3) := by decide +kernel
theorem dX10_init_156 : decode cX10_init 156 = .ok (.newarray .byte, 2) := by decide +kernel
theorem dX10_init_158 : decode cX10_init 158 = .ok (.putfield 66, 3) := by decide +kernel
theorem dX10_init_161 : decode cX10_init 161 = .ok (.iconst 0, 1) := by decide +kernel
theorem dX10_init_162 : decode cX10_init 162 = .ok (.istore_n 1, 1) := by decide +kernel
theorem dX10_init_163 : decode cX10_init 163 = .ok (.iload_n 1, 1) := by decide +kernel
theorem dX10_init_164 : decode cX10_init 164 = .ok (.bipush 16, 2) := by decide +kernel
theorem dX10_init_166 : decode cX10_init 166 = .ok (.if_icmp .ge 16, 3) := by decide +kernel
theorem dX10_init_169 : decode cX10_init 169 = .ok (.aload_n 0, 1) := by decide +kernel
theorem dX10_init_170 : decode cX10_init 170 = .ok (.getfield 47, 3) := by decide +kernel
theorem dX10_init_173 : decode cX10_init 173 = .ok (.iload_n 1, 1) := by decide +kernel
theorem dX10_init_174 : decode cX10_init 174 = .ok (.iconst 1, 1) := by decide +kernel
theorem dX10_init_175 : decode cX10_init 175 = .ok (.bastore, 1) := by decide +kernel
theorem dX10_init_176 : decode cX10_init 176 = .ok (.iinc 1 1, 3) := by decide +kernel
theorem dX10_init_179 : decode cX10_init 179 = .ok (.goto (-16), 3) := by decide +kernel
theorem dX10_init_182 : decode cX10_init 182 = .ok (.aload_n 0, 1) := by decide +kernel
theorem dX10_init_183 : decode cX10_init 183 = .ok (.iconst (-1), 1) := by decide +kernel
theorem dX10_init_184 : decode cX10_init 184 = .ok (.putfield 69, 3) := by decide +kernel
theorem dX10_init_187 : decode cX10_init 187 = .ok (.aload_n 0, 1) := by decide +kernel
theorem dX10_init_188 : decode cX10_init 188 = .ok (.iconst (-1), 1) := by decide +kernel
theorem dX10_init_189 : decode cX10_init 189 = .ok (.putfield 73, 3) := by decide +kernel
theorem dX10_init_192 : decode cX10_init 192 = .ok (.aload_n 0, 1) := by decide +kernel
theorem dX10_init_193 : decode cX10_init 193 = .ok (.iconst (-1), 1) := by decide +kernel
theorem dX10_init_194 : decode cX10_init 194 = .ok (.putfield 76, 3) := by decide +kernel
theorem dX10_init_197 : decode cX10_init 197 = .ok (.aload_n 0, 1) := by decide +kernel
theorem dX10_init_198 : decode cX10_init 198 = .ok (.iconst (-1), 1) := by decide +kernel
theorem dX10_init_199 : decode cX10_init 199 = .ok (.putfield 79, 3) := by decide +kernel
theorem dX10_init_202 : decode cX10_init 202 = .ok (.aload_n 0, 1) := by decide +kernel
theorem dX10_init_203 : decode cX10_init 203 = .ok (.bipush 8, 2) := by decide +kernel
theorem dX10_init_205 : decode cX10_init 205 = .ok (.putfield 82, 3) := by decide +kernel
theorem dX10_init_208 : decode cX10_init 208 = .ok (.aload_n 0, 1) := by decide +kernel
theorem dX10_init_209 : decode cX10_init 209 = .ok (.iconst (-1), 1) := by decide +kernel
theorem dX10_init_210 : decode cX10_init 210 = .ok (.putfield 85, 3) := by decide +kernel
theorem dX10_init_213 : decode cX10_init 213 = .ok (.aload_n 0, 1) := by decide +kernel
theorem dX10_init_214 : decode cX10_init 214 = .ok (.iconst (-1), 1) := by decide +kernel
theorem dX10_init_215 : decode cX10_init 215 = .ok (.putfield 88, 3) := by decide +kernel
theorem dX10_init_218 : decode cX10_init 218 = .ok (.aload_n 0, 1) := by decide +kernel
theorem dX10_init_219 : decode cX10_init 219 = .ok (.iconst (-1), 1) := by decide +kernel
theorem dX10_init_220 : decode cX10_init 220 = .ok (.putfield 91, 3) := by decide +kernel
theorem dX10_init_223 : decode cX10_init 223 = .ok (.aload_n 0, 1) := by decide +kernel
theorem dX10_init_224 : decode cX10_init 224 = .ok (.iconst (-1), 1) := by decide +kernel
theorem dX10_init_225 : decode cX10_init 225 = .ok (.putfield 94, 3) := by decide +kernel
theorem dX10_init_228 : decode cX10_init 228 = .ok (.aload_n 0, 1) := by decide +kernel
theorem dX10_init_229 : decode cX10_init 229 = .ok (.iconst (-1), 1) := by decide +kernel
theorem dX10_init_230 : decode cX10_init 230 = .ok (.putfield 97, 3) := by decide +kernel
theorem dX10_init_233 : decode cX10_init 233 = .ok (.aload_n 0, 1) := by decide +kernel
theorem dX10_init_234 : decode cX10_init 234 = .ok (.lconst 1, 1) := by decide +kernel
theorem dX10_init_235 : decode cX10_init 235 = .ok (.putfield 100, 3) := by decide +kernel
theorem dX10_init_238 : decode cX10_init 238 = .ok (.aload_n 0, 1) := by decide +kernel
theorem dX10_init_239 : decode cX10_init 239 = .ok (.lconst 1, 1) := by decide +kernel
theorem dX10_init_240 : decode cX10_init 240 = .ok (.putfield 104, 3) := by decide +kernel
theorem dX10_init_243 : decode cX10_init 243 = .ok (.aload_n 0, 1) := by decide +kernel
theorem dX10_init_244 : decode cX10_init 244 = .ok (.getfield 63, 3) := by decide +kernel
theorem dX10_init_247 : decode cX10_init 247 = .ok (.iconst 0, 1) := by decide +kernel
theorem dX10_init_248 : decode cX10_init 248 = .ok (.bipush 15, 2) := by decide +kernel
theorem dX10_init_250 : decode cX10_init 250 = .ok (.iastore, 1) := by decide +kernel
theorem dX10_init_251 : decode cX10_init 251 = .ok (.aload_n 0, 1) := by decide +kernel
theorem dX10_init_252 : decode cX10_init 252 = .ok (.getfield 63, 3) := by decide +kernel
theorem dX10_init_255 : decode cX10_init 255 = .ok (.iconst 1, 1) := by decide +kernel
theorem dX10_init_256 : decode cX10_init 256 = .ok (.bipush 10, 2) := by decide +kernel
theorem dX10_init_258 : decode cX10_init 258 = .ok (.iastore, 1) := by decide +kernel
theorem dX10_init_259 : decode cX10_init 259 = .ok (.aload_n 0, 1) := by decide +kernel
theorem dX10_init_260 : decode cX10_init 260 = .ok (.getfield 63, 3) := by decide +kernel
theorem dX10_init_263 : decode cX10_init 263 = .ok (.iconst 2, 1) := by decide +kernel
theorem dX10_init_264 : decode cX10_init 264 = .ok (.bipush 20, 2) := by decide +kernel
theorem dX10_init_266 : decode cX10_init 266 = .ok (.iastore, 1) := by decide +kernel
theorem dX10_init_267 : decode cX10_init 267 = .ok (.aload_n 0, 1) := by decide +kernel
theorem dX10_init_268 : decode cX10_init 268 = .ok (.getfield 63, 3) := by decide +kernel
theorem dX10_init_271 : decode cX10_init 271 = .ok (.iconst 3, 1) := by decide +kernel
theorem dX10_init_272 : decode cX10_init 272 = .ok (.bipush 10, 2) := by decide +kernel
theorem dX10_init_274 : decode cX10_init 274 = .ok (.iastore, 1) := by decide +kernel
theorem dX10_init_275 : decode cX10_init 275 = .ok (.aload_n 0, 1) := by decide +kernel
theorem dX10_init_276 : decode cX10_init 276 = .ok (.getfield 63, 3) := by decide +kernel
theorem dX10_init_279 : decode cX10_init 279 = .ok (.iconst 4, 1) := by decide +kernel
theorem dX10_init_280 : decode cX10_init 280 = .ok (.sipush 200, 3) := by decide +kernel
theorem dX10_init_283 : decode cX10_init 283 = .ok (.iastore, 1) := by decide +kernel
theorem dX10_init_284 : decode cX10_init 284 = .ok (.aload_n 0, 1) := by decide +kernel
theorem dX10_init_285 : decode cX10_init 285 = .ok (.getfield 63, 3) := by decide +kernel
theorem dX10_init_288 : decode cX10_init 288 = .ok (.iconst 5, 1) := by decide +kernel
theorem dX10_init_289 : decode cX10_init 289 = .ok (.iconst 0, 1) := by decide +kernel
theorem dX10_init_290 : decode cX10_init 290 = .ok (.iastore, 1) := by decide +kernel
theorem dX10_init_291 : decode cX10_init 291 = .ok (.aload_n 0, 1) := by decide +kernel
theorem dX10_init_292 : decode cX10_init 292 = .ok (.getfield 63, 3) := by decide +kernel
theorem dX10_init_295 : decode cX10_init 295 = .ok (.bipush 6, 2) := by decide +kernel
theorem dX10_init_297 : decode cX10_init 297 = .ok (.bipush 12, 2) := by decide +kernel
theorem dX10_init_299 : decode cX10_init 299 = .ok (.iastore, 1) := by decide +kernel
theorem dX10_init_300 : decode cX10_init 300 = .ok (.aload_n 0, 1) := by decide +kernel
theorem dX10_init_301 : decode cX10_init 301 = .ok (.getfield 63, 3) := by decide +kernel
theorem dX10_init_304 : decode cX10_init 304 = .ok (.bipush 7, 2) := by decide +kernel
theorem dX10_init_306 : decode cX10_init 306 = .ok (.iconst 0, 1) := by decide +kernel
theorem dX10_init_307 : decode cX10_init 307 = .ok (.iastore, 1) := by decide +kernel
theorem dX10_init_308 : decode cX10_init 308 = .ok (.aload_n 0, 1) := by decide +kernel
theorem dX10_init_309 : decode cX10_init 309 = .ok (.getfield 63, 3) := by decide +kernel
theorem dX10_init_312 : decode cX10_init 312 = .ok (.bipush 8, 2) := by decide +kernel
theorem dX10_init_314 : decode cX10_init 314 = .ok (.sipush 999, 3) := by decide +kernel
theorem dX10_init_317 : decode cX10_init 317 = .ok (.iastore, 1) := by decide +kernel
theorem dX10_init_318 : decode cX10_init 318 = .ok (.return_, 1) := by decide +kernel
theorem dX10_feed_0 : decode cX10_feed 0 = .ok (.aload_n 0, 1) := by decide +kernel
theorem dX10_feed_1 : decode cX10_feed 1 = .ok (.getfield 107, 3) := by decide +kernel
theorem dX10_feed_4 : decode cX10_feed 4 = .ok (.bipush 20, 2) := by decide +kernel
theorem dX10_feed_6 : decode cX10_feed 6 = .ok (.iadd, 1) := by decide +kernel
theorem dX10_feed_7 : decode cX10_feed 7 = .ok (.sipush 400, 3) := by decide +kernel
theorem dX10_feed_10 : decode cX10_feed 10 = .ok (.if_icmp .le 5, 3) := by decide +kernel
theorem dX10_feed_13 : decode cX10_feed 13 = .ok (.iconst (-1), 1) := by decide +kernel
theorem dX10_feed_14 : decode cX10_feed 14 = .ok (.ireturn, 1) := by decide +kernel
theorem dX10_feed_15 : decode cX10_feed 15 = .ok (.aload_n 0, 1) := by decide +kernel
theorem dX10_feed_16 : decode cX10_feed 16 = .ok (.iload_n 1, 1) := by decide +kernel
theorem dX10_feed_17 : decode cX10_feed 17 = .ok (.invokevirtual 110, 3) := by decide +kernel
theorem dX10_feed_20 : decode cX10_feed 20 = .ok (.aload_n 0, 1) := by decide +kernel
theorem dX10_feed_21 : decode cX10_feed 21 = .ok (.iload_n 2, 1) := by decide +kernel
theorem dX10_feed_22 : decode cX10_feed 22 = .ok (.invokevirtual 110, 3) := by decide +kernel
theorem dX10_feed_25 : decode cX10_feed 25 = .ok (.aload_n 0, 1) := by decide +kernel
theorem dX10_feed_26 : decode cX10_feed 26 = .ok (.iload_n 3, 1) := by decide +kernel
theorem dX10_feed_27 : decode cX10_feed 27 = .ok (.invokevirtual 110, 3) := by decide +kernel
theorem dX10_feed_30 : decode cX10_feed 30 = .ok (.aload_n 0, 1) := by decide +kernel
theorem dX10_feed_31 : decode cX10_feed 31 = .ok (.iload 4, 2) := by decide +kernel
theorem dX10_feed_33 : decode cX10_feed 33 = .ok (.invokevirtual 110, 3) := by decide +kernel
theorem dX10_feed_36 : decode cX10_feed 36 = .ok (.aload_n 0, 1) := by decide +kernel
theorem dX10_feed_37 : decode cX10_feed 37 = .ok (.iload 5, 2) := by decide +kernel
theorem dX10_feed_39 : decode cX10_feed 39 = .ok (.invokevirtual 110, 3) := by decide +kernel
theorem dX10_feed_42 : decode cX10_feed 42 = .ok (.aload_n 0, 1) := by decide +kernel
theorem dX10_feed_43 : decode cX10_feed 43 = .ok (.getfield 107, 3) := by decide +kernel
theorem dX10_feed_46 : decode cX10_feed 46 = .ok (.ireturn, 1) := by decide +kernel
theorem dX10_lay_0 : decode cX10_lay 0 = .ok (.bipush 24, 2) := by decide +kernel
theorem dX10_lay_2 : decode cX10_lay 2 = .ok (.istore_n 2, 1) := by decide +kernel
theorem dX10_lay_3 : decode cX10_lay 3 = .ok (.iload_n 2, 1) := by decide +kernel
theorem dX10_lay_4 : decode cX10_lay 4 = .ok (.ifCond .lt 32, 3) := by decide +kernel
theorem dX10_lay_7 : decode cX10_lay 7 = .ok (.aload_n 0, 1) := by decide +kernel
theorem dX10_lay_8 : decode cX10_lay 8 = .ok (.getfield 7, 3) := by decide +kernel
theorem dX10_lay_11 : decode cX10_lay 11 = .ok (.aload_n 0, 1) := by decide +kernel
theorem dX10_lay_12 : decode cX10_lay 12 = .ok (.getfield 107, 3) := by decide +kernel
theorem dX10_lay_15 : decode cX10_lay 15 = .ok (.iload_n 1, 1) := by decide +kernel
theorem dX10_lay_16 : decode cX10_lay 16 = .ok (.iload_n 2, 1) := by decide +kernel
theorem dX10_lay_17 : decode cX10_lay 17 = .ok (.ishr, 1) := by decide +kernel
theorem dX10_lay_18 : decode cX10_lay 18 = .ok (.i2b, 1) := by decide +kernel
theorem dX10_lay_19 : decode cX10_lay 19 = .ok (.bastore, 1) := by decide +kernel
theorem dX10_lay_20 : decode cX10_lay 20 = .ok (.aload_n 0, 1) := by decide +kernel
theorem dX10_lay_21 : decode cX10_lay 21 = .ok (.dup, 1) := by decide +kernel
theorem dX10_lay_22 : decode cX10_lay 22 = .ok (.getfield 107, 3) := by decide +kernel
theorem dX10_lay_25 : decode cX10_lay 25 = .ok (.iconst 1, 1) := by decide +kernel
theorem dX10_lay_26 : decode cX10_lay 26 = .ok (.iadd, 1) := by decide +kernel
theorem dX10_lay_27 : decode cX10_lay 27 = .ok (.putfield 107, 3) := by decide +kernel
theorem dX10_lay_30 : decode cX10_lay 30 = .ok (.iinc 2 (-8), 3) := by decide +kernel
theorem dX10_lay_33 : decode cX10_lay 33 = .ok (.goto (-30), 3) := by decide +kernel
theorem dX10_lay_36 : decode cX10_lay 36 = .ok (.return_, 1) := by decide +kernel
theorem dX10_cut_0 : decode cX10_cut 0 = .ok (.iload_n 1, 1) := by decide +kernel
theorem dX10_cut_1 : decode cX10_cut 1 = .ok (.ifCond .lt 11, 3) := by decide +kernel
theorem dX10_cut_4 : decode cX10_cut 4 = .ok (.iload_n 1, 1) := by decide +kernel
theorem dX10_cut_5 : decode cX10_cut 5 = .ok (.aload_n 0, 1) := by decide +kernel
theorem dX10_cut_6 : decode cX10_cut 6 = .ok (.getfield 107, 3) := by decide +kernel
theorem dX10_cut_9 : decode cX10_cut 9 = .ok (.if_icmp .le 5, 3) := by decide +kernel
theorem dX10_cut_12 : decode cX10_cut 12 = .ok (.iconst (-1), 1) := by decide +kernel
theorem dX10_cut_13 : decode cX10_cut 13 = .ok (.ireturn, 1) := by decide +kernel
theorem dX10_cut_14 : decode cX10_cut 14 = .ok (.aload_n 0, 1) := by decide +kernel
theorem dX10_cut_15 : decode cX10_cut 15 = .ok (.getfield 107, 3) := by decide +kernel
theorem dX10_cut_18 : decode cX10_cut 18 = .ok (.iload_n 1, 1) := by decide +kernel
theorem dX10_cut_19 : decode cX10_cut 19 = .ok (.isub, 1) := by decide +kernel
theorem dX10_cut_20 : decode cX10_cut 20 = .ok (.istore_n 2, 1) := by decide +kernel
theorem dX10_cut_21 : decode cX10_cut 21 = .ok (.aload_n 0, 1) := by decide +kernel
theorem dX10_cut_22 : decode cX10_cut 22 = .ok (.iload_n 1, 1) := by decide +kernel
theorem dX10_cut_23 : decode cX10_cut 23 = .ok (.putfield 107, 3) := by decide +kernel
theorem dX10_cut_26 : decode cX10_cut 26 = .ok (.iload_n 2, 1) := by decide +kernel
theorem dX10_cut_27 : decode cX10_cut 27 = .ok (.ireturn, 1) := by decide +kernel
theorem dX10_rootOf_0 : decode cX10_rootOf 0 = .ok (.lconst 0, 1) := by decide +kernel
theorem dX10_rootOf_1 : decode cX10_rootOf 1 = .ok (.lstore_n 2, 1) := by decide +kernel
theorem dX10_rootOf_2 : decode cX10_rootOf 2 = .ok (.ldc2_w 114, 3) := by decide +kernel
theorem dX10_rootOf_5 : decode cX10_rootOf 5 = .ok (.lstore 4, 2) := by decide +kernel
theorem dX10_rootOf_7 : decode cX10_rootOf 7 = .ok (.lload 4, 2) := by decide +kernel
theorem dX10_rootOf_9 : decode cX10_rootOf 9 = .ok (.lload_n 2, 1) := by decide +kernel
theorem dX10_rootOf_10 : decode cX10_rootOf 10 = .ok (.lsub, 1) := by decide +kernel
theorem dX10_rootOf_11 : decode cX10_rootOf 11 = .ok (.lconst 1, 1) := by decide +kernel
theorem dX10_rootOf_12 : decode cX10_rootOf 12 = .ok (.lcmp, 1) := by decide +kernel
theorem dX10_rootOf_13 : decode cX10_rootOf 13 = .ok (.ifCond .le 34, 3) := by decide +kernel
theorem dX10_rootOf_16 : decode cX10_rootOf 16 = .ok (.lload_n 2, 1) := by decide +kernel
theorem dX10_rootOf_17 : decode cX10_rootOf 17 = .ok (.lload 4, 2) := by decide +kernel
theorem dX10_rootOf_19 : decode cX10_rootOf 19 = .ok (.ladd, 1) := by decide +kernel
theorem dX10_rootOf_20 : decode cX10_rootOf 20 = .ok (.iconst 1, 1) := by decide +kernel
theorem dX10_rootOf_21 : decode cX10_rootOf 21 = .ok (.lshr, 1) := by decide +kernel
theorem dX10_rootOf_22 : decode cX10_rootOf 22 = .ok (.lstore 6, 2) := by decide +kernel
theorem dX10_rootOf_24 : decode cX10_rootOf 24 = .ok (.lload 6, 2) := by decide +kernel
theorem dX10_rootOf_26 : decode cX10_rootOf 26 = .ok (.iload_n 0, 1) := by decide +kernel
theorem dX10_rootOf_27 : decode cX10_rootOf 27 = .ok (.iload_n 1, 1) := by decide +kernel
theorem dX10_rootOf_28 : decode cX10_rootOf 28 = .ok (.invokestatic 116, 3) := by decide +kernel
theorem dX10_rootOf_31 : decode cX10_rootOf 31 = .ok (.ifCond .eq 9, 3) := by decide +kernel
theorem dX10_rootOf_34 : decode cX10_rootOf 34 = .ok (.lload 6, 2) := by decide +kernel
theorem dX10_rootOf_36 : decode cX10_rootOf 36 = .ok (.lstore_n 2, 1) := by decide +kernel
theorem dX10_rootOf_37 : decode cX10_rootOf 37 = .ok (.goto 7, 3) := by decide +kernel
theorem dX10_rootOf_40 : decode cX10_rootOf 40 = .ok (.lload 6, 2) := by decide +kernel
theorem dX10_rootOf_42 : decode cX10_rootOf 42 = .ok (.lstore 4, 2) := by decide +kernel
theorem dX10_rootOf_44 : decode cX10_rootOf 44 = .ok (.goto (-37), 3) := by decide +kernel
theorem dX10_rootOf_47 : decode cX10_rootOf 47 = .ok (.lload_n 2, 1) := by decide +kernel
theorem dX10_rootOf_48 : decode cX10_rootOf 48 = .ok (.l2i, 1) := by decide +kernel
theorem dX10_rootOf_49 : decode cX10_rootOf 49 = .ok (.ireturn, 1) := by decide +kernel
theorem dX10_isNotAbove_0 : decode cX10_isNotAbove 0 = .ok (.lload_n 0, 1) := by decide +kernel
theorem dX10_isNotAbove_1 : decode cX10_isNotAbove 1 = .ok (.ldc2_w 120, 3) := by decide +kernel
theorem dX10_isNotAbove_4 : decode cX10_isNotAbove 4 = .ok (.land, 1) := by decide +kernel
theorem dX10_isNotAbove_5 : decode cX10_isNotAbove 5 = .ok (.lstore 4, 2) := by decide +kernel
theorem dX10_isNotAbove_7 : decode cX10_isNotAbove 7 = .ok (.lload_n 0, 1) := by decide +kernel
theorem dX10_isNotAbove_8 : decode cX10_isNotAbove 8 = .ok (.bipush 24, 2) := by decide +kernel
theorem dX10_isNotAbove_10 : decode cX10_isNotAbove 10 = .ok (.lushr, 1) := by decide +kernel
theorem dX10_isNotAbove_11 : decode cX10_isNotAbove 11 = .ok (.lstore 6, 2) := by decide +kernel
theorem dX10_isNotAbove_13 : decode cX10_isNotAbove 13 = .ok (.lload 4, 2) := by decide +kernel
theorem dX10_isNotAbove_15 : decode cX10_isNotAbove 15 = .ok (.lload 4, 2) := by decide +kernel
theorem dX10_isNotAbove_17 : decode cX10_isNotAbove 17 = .ok (.lmul, 1) := by decide +kernel
theorem dX10_isNotAbove_18 : decode cX10_isNotAbove 18 = .ok (.lstore 8, 2) := by decide +kernel
theorem dX10_isNotAbove_20 : decode cX10_isNotAbove 20 = .ok (.ldc2_w 122, 3) := by decide +kernel
theorem dX10_isNotAbove_23 : decode cX10_isNotAbove 23 = .ok (.lload 4, 2) := by decide +kernel
theorem dX10_isNotAbove_25 : decode cX10_isNotAbove 25 = .ok (.lmul, 1) := by decide +kernel
theorem dX10_isNotAbove_26 : decode cX10_isNotAbove 26 = .ok (.lload 6, 2) := by decide +kernel
theorem dX10_isNotAbove_28 : decode cX10_isNotAbove 28 = .ok (.lmul, 1) := by decide +kernel
theorem dX10_isNotAbove_29 : decode cX10_isNotAbove 29 = .ok (.lstore 10, 2) := by decide +kernel
theorem dX10_isNotAbove_31 : decode cX10_isNotAbove 31 = .ok (.lload 6, 2) := by decide +kernel
theorem dX10_isNotAbove_33 : decode cX10_isNotAbove 33 = .ok (.lload 6, 2) := by decide +kernel
theorem dX10_isNotAbove_35 : decode cX10_isNotAbove 35 = .ok (.lmul, 1) := by decide +kernel
theorem dX10_isNotAbove_36 : decode cX10_isNotAbove 36 = .ok (.lstore 12, 2) := by decide +kernel
theorem dX10_isNotAbove_38 : decode cX10_isNotAbove 38 = .ok (.lload 10, 2) := by decide +kernel
theorem dX10_isNotAbove_40 : decode cX10_isNotAbove 40 = .ok (.lload 8, 2) := by decide +kernel
theorem dX10_isNotAbove_42 : decode cX10_isNotAbove 42 = .ok (.bipush 24, 2) := by decide +kernel
theorem dX10_isNotAbove_44 : decode cX10_isNotAbove 44 = .ok (.lushr, 1) := by decide +kernel
theorem dX10_isNotAbove_45 : decode cX10_isNotAbove 45 = .ok (.ladd, 1) := by decide +kernel
theorem dX10_isNotAbove_46 : decode cX10_isNotAbove 46 = .ok (.lstore 10, 2) := by decide +kernel
theorem dX10_isNotAbove_48 : decode cX10_isNotAbove 48 = .ok (.lload 8, 2) := by decide +kernel
theorem dX10_isNotAbove_50 : decode cX10_isNotAbove 50 = .ok (.ldc2_w 120, 3) := by decide +kernel
theorem dX10_isNotAbove_53 : decode cX10_isNotAbove 53 = .ok (.land, 1) := by decide +kernel
theorem dX10_isNotAbove_54 : decode cX10_isNotAbove 54 = .ok (.lstore 8, 2) := by decide +kernel
theorem dX10_isNotAbove_56 : decode cX10_isNotAbove 56 = .ok (.lload 12, 2) := by decide +kernel
theorem dX10_isNotAbove_58 : decode cX10_isNotAbove 58 = .ok (.lload 10, 2) := by decide +kernel
theorem dX10_isNotAbove_60 : decode cX10_isNotAbove 60 = .ok (.bipush 24, 2) := by decide +kernel
theorem dX10_isNotAbove_62 : decode cX10_isNotAbove 62 = .ok (.lushr, 1) := by decide +kernel
theorem dX10_isNotAbove_63 : decode cX10_isNotAbove 63 = .ok (.ladd, 1) := by decide +kernel
theorem dX10_isNotAbove_64 : decode cX10_isNotAbove 64 = .ok (.lstore 12, 2) := by decide +kernel
theorem dX10_isNotAbove_66 : decode cX10_isNotAbove 66 = .ok (.lload 10, 2) := by decide +kernel
theorem dX10_isNotAbove_68 : decode cX10_isNotAbove 68 = .ok (.ldc2_w 120, 3) := by decide +kernel
theorem dX10_isNotAbove_71 : decode cX10_isNotAbove 71 = .ok (.land, 1) := by decide +kernel
theorem dX10_isNotAbove_72 : decode cX10_isNotAbove 72 = .ok (.lstore 10, 2) := by decide +kernel
theorem dX10_isNotAbove_74 : decode cX10_isNotAbove 74 = .ok (.iload_n 3, 1) := by decide +kernel
theorem dX10_isNotAbove_75 : decode cX10_isNotAbove 75 = .ok (.ifCond .ne 47, 3) := by decide +kernel
theorem dX10_isNotAbove_78 : decode cX10_isNotAbove 78 = .ok (.lload 12, 2) := by decide +kernel
theorem dX10_isNotAbove_80 : decode cX10_isNotAbove 80 = .ok (.iload_n 2, 1) := by decide +kernel
theorem dX10_isNotAbove_81 : decode cX10_isNotAbove 81 = .ok (.i2l, 1) := by decide +kernel
theorem dX10_isNotAbove_82 : decode cX10_isNotAbove 82 = .ok (.ldc2_w 124, 3) := by decide +kernel
theorem dX10_isNotAbove_85 : decode cX10_isNotAbove 85 = .ok (.lmul, 1) := by decide +kernel
theorem dX10_isNotAbove_86 : decode cX10_isNotAbove 86 = .ok (.lcmp, 1) := by decide +kernel
theorem dX10_isNotAbove_87 : decode cX10_isNotAbove 87 = .ok (.ifCond .lt 29, 3) := by decide +kernel
theorem dX10_isNotAbove_90 : decode cX10_isNotAbove 90 = .ok (.lload 12, 2) := by decide +kernel
theorem dX10_isNotAbove_92 : decode cX10_isNotAbove 92 = .ok (.iload_n 2, 1) := by decide +kernel
theorem dX10_isNotAbove_93 : decode cX10_isNotAbove 93 = .ok (.i2l, 1) := by decide +kernel
theorem dX10_isNotAbove_94 : decode cX10_isNotAbove 94 = .ok (.ldc2_w 124, 3) := by decide +kernel
theorem dX10_isNotAbove_97 : decode cX10_isNotAbove 97 = .ok (.lmul, 1) := by decide +kernel
theorem dX10_isNotAbove_98 : decode cX10_isNotAbove 98 = .ok (.lcmp, 1) := by decide +kernel
theorem dX10_isNotAbove_99 : decode cX10_isNotAbove 99 = .ok (.ifCond .ne 21, 3) := by decide +kernel
theorem dX10_isNotAbove_102 : decode cX10_isNotAbove 102 = .ok (.lload 10, 2) := by decide +kernel
theorem dX10_isNotAbove_104 : decode cX10_isNotAbove 104 = .ok (.lconst 0, 1) := by decide +kernel
theorem dX10_isNotAbove_105 : decode cX10_isNotAbove 105 = .ok (.lcmp, 1) := by decide +kernel
theorem dX10_isNotAbove_106 : decode cX10_isNotAbove 106 = .ok (.ifCond .ne 14, 3) := by decide +kernel
theorem dX10_isNotAbove_109 : decode cX10_isNotAbove 109 = .ok (.lload 8, 2) := by decide +kernel
theorem dX10_isNotAbove_111 : decode cX10_isNotAbove 111 = .ok (.lconst 0, 1) := by decide +kernel
theorem dX10_isNotAbove_112 : decode cX10_isNotAbove 112 = .ok (.lcmp, 1) := by decide +kernel
theorem dX10_isNotAbove_113 : decode cX10_isNotAbove 113 = .ok (.ifCond .ne 7, 3) := by decide +kernel
theorem dX10_isNotAbove_116 : decode cX10_isNotAbove 116 = .ok (.iconst 1, 1) := by decide +kernel
theorem dX10_isNotAbove_117 : decode cX10_isNotAbove 117 = .ok (.goto 4, 3) := by decide +kernel
theorem dX10_isNotAbove_120 : decode cX10_isNotAbove 120 = .ok (.iconst 0, 1) := by decide +kernel
theorem dX10_isNotAbove_121 : decode cX10_isNotAbove 121 = .ok (.ireturn, 1) := by decide +kernel
theorem dX10_isNotAbove_122 : decode cX10_isNotAbove 122 = .ok (.lload 8, 2) := by decide +kernel
theorem dX10_isNotAbove_124 : decode cX10_isNotAbove 124 = .ok (.lload 4, 2) := by decide +kernel
theorem dX10_isNotAbove_126 : decode cX10_isNotAbove 126 = .ok (.lmul, 1) := by decide +kernel
theorem dX10_isNotAbove_127 : decode cX10_isNotAbove 127 = .ok (.lstore 14, 2) := by decide +kernel
theorem dX10_isNotAbove_129 : decode cX10_isNotAbove 129 = .ok (.lload 8, 2) := by decide +kernel
theorem dX10_isNotAbove_131 : decode cX10_isNotAbove 131 = .ok (.lload 6, 2) := by decide +kernel
theorem dX10_isNotAbove_133 : decode cX10_isNotAbove 133 = .ok (.lmul, 1) := by decide +kernel
theorem dX10_isNotAbove_134 : decode cX10_isNotAbove 134 = .ok (.lload 10, 2) := by decide +kernel
theorem dX10_isNotAbove_136 : decode cX10_isNotAbove 136 = .ok (.lload 4, 2) := by decide +kernel
theorem dX10_isNotAbove_138 : decode cX10_isNotAbove 138 = .ok (.lmul, 1) := by decide +kernel
theorem dX10_isNotAbove_139 : decode cX10_isNotAbove 139 = .ok (.ladd, 1) := by decide +kernel
theorem dX10_isNotAbove_140 : decode cX10_isNotAbove 140 = .ok (.lstore 16, 2) := by decide +kernel
theorem dX10_isNotAbove_142 : decode cX10_isNotAbove 142 = .ok (.lload 10, 2) := by decide +kernel
theorem dX10_isNotAbove_144 : decode cX10_isNotAbove 144 = .ok (.lload 6, 2) := by decide +kernel
theorem dX10_isNotAbove_146 : decode cX10_isNotAbove 146 = .ok (.lmul, 1) := by decide +kernel
theorem dX10_isNotAbove_147 : decode cX10_isNotAbove 147 = .ok (.lload 12, 2) := by decide +kernel
