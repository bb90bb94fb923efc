/-! decode rows, as printed -/
theorem dX10_actOutside_396 : decode cX10_actOutside 396 = .ok (.getfield 69, 3) := by decide +kernel
theorem dX10_actOutside_399 : decode cX10_actOutside 399 = .ok (.ifCond .lt 5, 3) := by decide +kernel
theorem dX10_actOutside_402 : decode cX10_actOutside 402 = .ok (.iconst 0, 1) := by decide +kernel
theorem dX10_actOutside_403 : decode cX10_actOutside 403 = .ok (.ireturn, 1) := by decide +kernel
theorem dX10_actOutside_404 : decode cX10_actOutside 404 = .ok (.aload_n 0, 1) := by decide +kernel
theorem dX10_actOutside_405 : decode cX10_actOutside 405 = .ok (.bipush 16, 2) := by decide +kernel
theorem dX10_actOutside_407 : decode cX10_actOutside 407 = .ok (.iconst 0, 1) := by decide +kernel
theorem dX10_actOutside_408 : decode cX10_actOutside 408 = .ok (.iload_n 1, 1) := by decide +kernel
theorem dX10_actOutside_409 : decode cX10_actOutside 409 = .ok (.invokevirtual 239, 3) := by decide +kernel
theorem dX10_actOutside_412 : decode cX10_actOutside 412 = .ok (.ifCond .eq 9, 3) := by decide +kernel
theorem dX10_actOutside_415 : decode cX10_actOutside 415 = .ok (.aload_n 0, 1) := by decide +kernel
theorem dX10_actOutside_416 : decode cX10_actOutside 416 = .ok (.iconst 0, 1) := by decide +kernel
theorem dX10_actOutside_417 : decode cX10_actOutside 417 = .ok (.iconst 1, 1) := by decide +kernel
theorem dX10_actOutside_418 : decode cX10_actOutside 418 = .ok (.invokevirtual 277, 3) := by decide +kernel
theorem dX10_actOutside_421 : decode cX10_actOutside 421 = .ok (.iconst 1, 1) := by decide +kernel
theorem dX10_actOutside_422 : decode cX10_actOutside 422 = .ok (.ireturn, 1) := by decide +kernel
theorem dX10_looksAt_0 : decode cX10_looksAt 0 = .ok (.aload_n 0, 1) := by decide +kernel
theorem dX10_looksAt_1 : decode cX10_looksAt 1 = .ok (.iload_n 1, 1) := by decide +kernel
theorem dX10_looksAt_2 : decode cX10_looksAt 2 = .ok (.invokevirtual 293, 3) := by decide +kernel
theorem dX10_looksAt_5 : decode cX10_looksAt 5 = .ok (.ifCond .eq 22, 3) := by decide +kernel
theorem dX10_looksAt_8 : decode cX10_looksAt 8 = .ok (.aload_n 0, 1) := by decide +kernel
theorem dX10_looksAt_9 : decode cX10_looksAt 9 = .ok (.iconst 3, 1) := by decide +kernel
theorem dX10_looksAt_10 : decode cX10_looksAt 10 = .ok (.iconst 0, 1) := by decide +kernel
theorem dX10_looksAt_11 : decode cX10_looksAt 11 = .ok (.iload_n 1, 1) := by decide +kernel
theorem dX10_looksAt_12 : decode cX10_looksAt 12 = .ok (.invokevirtual 239, 3) := by decide +kernel
theorem dX10_looksAt_15 : decode cX10_looksAt 15 = .ok (.ifCond .eq 72, 3) := by decide +kernel
theorem dX10_looksAt_18 : decode cX10_looksAt 18 = .ok (.aload_n 0, 1) := by decide +kernel
theorem dX10_looksAt_19 : decode cX10_looksAt 19 = .ok (.iconst 5, 1) := by decide +kernel
theorem dX10_looksAt_20 : decode cX10_looksAt 20 = .ok (.iconst 3, 1) := by decide +kernel
theorem dX10_looksAt_21 : decode cX10_looksAt 21 = .ok (.invokevirtual 277, 3) := by decide +kernel
theorem dX10_looksAt_24 : decode cX10_looksAt 24 = .ok (.goto 63, 3) := by decide +kernel
theorem dX10_looksAt_27 : decode cX10_looksAt 27 = .ok (.aload_n 0, 1) := by decide +kernel
theorem dX10_looksAt_28 : decode cX10_looksAt 28 = .ok (.iload_n 1, 1) := by decide +kernel
theorem dX10_looksAt_29 : decode cX10_looksAt 29 = .ok (.invokevirtual 296, 3) := by decide +kernel
theorem dX10_looksAt_32 : decode cX10_looksAt 32 = .ok (.ifCond .eq 38, 3) := by decide +kernel
theorem dX10_looksAt_35 : decode cX10_looksAt 35 = .ok (.aload_n 0, 1) := by decide +kernel
theorem dX10_looksAt_36 : decode cX10_looksAt 36 = .ok (.iconst 4, 1) := by decide +kernel
theorem dX10_looksAt_37 : decode cX10_looksAt 37 = .ok (.iconst 0, 1) := by decide +kernel
theorem dX10_looksAt_38 : decode cX10_looksAt 38 = .ok (.iload_n 1, 1) := by decide +kernel
theorem dX10_looksAt_39 : decode cX10_looksAt 39 = .ok (.invokevirtual 239, 3) := by decide +kernel
theorem dX10_looksAt_42 : decode cX10_looksAt 42 = .ok (.ifCond .eq 45, 3) := by decide +kernel
theorem dX10_looksAt_45 : decode cX10_looksAt 45 = .ok (.aload_n 0, 1) := by decide +kernel
theorem dX10_looksAt_46 : decode cX10_looksAt 46 = .ok (.iconst 2, 1) := by decide +kernel
theorem dX10_looksAt_47 : decode cX10_looksAt 47 = .ok (.iconst 2, 1) := by decide +kernel
theorem dX10_looksAt_48 : decode cX10_looksAt 48 = .ok (.invokevirtual 277, 3) := by decide +kernel
theorem dX10_looksAt_51 : decode cX10_looksAt 51 = .ok (.aload_n 0, 1) := by decide +kernel
theorem dX10_looksAt_52 : decode cX10_looksAt 52 = .ok (.aload_n 0, 1) := by decide +kernel
theorem dX10_looksAt_53 : decode cX10_looksAt 53 = .ok (.getfield 182, 3) := by decide +kernel
theorem dX10_looksAt_56 : decode cX10_looksAt 56 = .ok (.aload_n 0, 1) := by decide +kernel
theorem dX10_looksAt_57 : decode cX10_looksAt 57 = .ok (.getfield 63, 3) := by decide +kernel
theorem dX10_looksAt_60 : decode cX10_looksAt 60 = .ok (.iconst 2, 1) := by decide +kernel
theorem dX10_looksAt_61 : decode cX10_looksAt 61 = .ok (.iaload, 1) := by decide +kernel
theorem dX10_looksAt_62 : decode cX10_looksAt 62 = .ok (.i2l, 1) := by decide +kernel
theorem dX10_looksAt_63 : decode cX10_looksAt 63 = .ok (.ladd, 1) := by decide +kernel
theorem dX10_looksAt_64 : decode cX10_looksAt 64 = .ok (.putfield 302, 3) := by decide +kernel
theorem dX10_looksAt_67 : decode cX10_looksAt 67 = .ok (.goto 20, 3) := by decide +kernel
theorem dX10_looksAt_70 : decode cX10_looksAt 70 = .ok (.aload_n 0, 1) := by decide +kernel
theorem dX10_looksAt_71 : decode cX10_looksAt 71 = .ok (.iconst 5, 1) := by decide +kernel
theorem dX10_looksAt_72 : decode cX10_looksAt 72 = .ok (.iconst 1, 1) := by decide +kernel
theorem dX10_looksAt_73 : decode cX10_looksAt 73 = .ok (.iload_n 1, 1) := by decide +kernel
theorem dX10_looksAt_74 : decode cX10_looksAt 74 = .ok (.invokevirtual 239, 3) := by decide +kernel
theorem dX10_looksAt_77 : decode cX10_looksAt 77 = .ok (.ifCond .eq 10, 3) := by decide +kernel
theorem dX10_looksAt_80 : decode cX10_looksAt 80 = .ok (.aload_n 0, 1) := by decide +kernel
theorem dX10_looksAt_81 : decode cX10_looksAt 81 = .ok (.bipush 7, 2) := by decide +kernel
theorem dX10_looksAt_83 : decode cX10_looksAt 83 = .ok (.iconst 5, 1) := by decide +kernel
theorem dX10_looksAt_84 : decode cX10_looksAt 84 = .ok (.invokevirtual 277, 3) := by decide +kernel
theorem dX10_looksAt_87 : decode cX10_looksAt 87 = .ok (.return_, 1) := by decide +kernel
theorem dX10_waits_0 : decode cX10_waits 0 = .ok (.aload_n 0, 1) := by decide +kernel
theorem dX10_waits_1 : decode cX10_waits 1 = .ok (.getfield 76, 3) := by decide +kernel
theorem dX10_waits_4 : decode cX10_waits 4 = .ok (.ifCond .lt 30, 3) := by decide +kernel
theorem dX10_waits_7 : decode cX10_waits 7 = .ok (.aload_n 0, 1) := by decide +kernel
theorem dX10_waits_8 : decode cX10_waits 8 = .ok (.bipush 6, 2) := by decide +kernel
theorem dX10_waits_10 : decode cX10_waits 10 = .ok (.iconst 0, 1) := by decide +kernel
theorem dX10_waits_11 : decode cX10_waits 11 = .ok (.iload_n 1, 1) := by decide +kernel
theorem dX10_waits_12 : decode cX10_waits 12 = .ok (.invokevirtual 239, 3) := by decide +kernel
theorem dX10_waits_15 : decode cX10_waits 15 = .ok (.ifCond .eq 17, 3) := by decide +kernel
theorem dX10_waits_18 : decode cX10_waits 18 = .ok (.aload_n 0, 1) := by decide +kernel
theorem dX10_waits_19 : decode cX10_waits 19 = .ok (.iconst 3, 1) := by decide +kernel
theorem dX10_waits_20 : decode cX10_waits 20 = .ok (.iconst 3, 1) := by decide +kernel
theorem dX10_waits_21 : decode cX10_waits 21 = .ok (.invokevirtual 277, 3) := by decide +kernel
theorem dX10_waits_24 : decode cX10_waits 24 = .ok (.aload_n 0, 1) := by decide +kernel
theorem dX10_waits_25 : decode cX10_waits 25 = .ok (.aload_n 0, 1) := by decide +kernel
theorem dX10_waits_26 : decode cX10_waits 26 = .ok (.getfield 76, 3) := by decide +kernel
theorem dX10_waits_29 : decode cX10_waits 29 = .ok (.putfield 308, 3) := by decide +kernel
theorem dX10_waits_32 : decode cX10_waits 32 = .ok (.iconst 1, 1) := by decide +kernel
theorem dX10_waits_33 : decode cX10_waits 33 = .ok (.ireturn, 1) := by decide +kernel
theorem dX10_waits_34 : decode cX10_waits 34 = .ok (.aload_n 0, 1) := by decide +kernel
theorem dX10_waits_35 : decode cX10_waits 35 = .ok (.getfield 182, 3) := by decide +kernel
theorem dX10_waits_38 : decode cX10_waits 38 = .ok (.aload_n 0, 1) := by decide +kernel
theorem dX10_waits_39 : decode cX10_waits 39 = .ok (.getfield 302, 3) := by decide +kernel
theorem dX10_waits_42 : decode cX10_waits 42 = .ok (.lcmp, 1) := by decide +kernel
theorem dX10_waits_43 : decode cX10_waits 43 = .ok (.ifCond .gt 5, 3) := by decide +kernel
theorem dX10_waits_46 : decode cX10_waits 46 = .ok (.iconst 0, 1) := by decide +kernel
theorem dX10_waits_47 : decode cX10_waits 47 = .ok (.ireturn, 1) := by decide +kernel
theorem dX10_waits_48 : decode cX10_waits 48 = .ok (.aload_n 0, 1) := by decide +kernel
theorem dX10_waits_49 : decode cX10_waits 49 = .ok (.bipush 7, 2) := by decide +kernel
theorem dX10_waits_51 : decode cX10_waits 51 = .ok (.iconst 1, 1) := by decide +kernel
theorem dX10_waits_52 : decode cX10_waits 52 = .ok (.iload_n 1, 1) := by decide +kernel
theorem dX10_waits_53 : decode cX10_waits 53 = .ok (.invokevirtual 239, 3) := by decide +kernel
theorem dX10_waits_56 : decode cX10_waits 56 = .ok (.ifCond .eq 10, 3) := by decide +kernel
theorem dX10_waits_59 : decode cX10_waits 59 = .ok (.aload_n 0, 1) := by decide +kernel
theorem dX10_waits_60 : decode cX10_waits 60 = .ok (.bipush 7, 2) := by decide +kernel
theorem dX10_waits_62 : decode cX10_waits 62 = .ok (.iconst 5, 1) := by decide +kernel
theorem dX10_waits_63 : decode cX10_waits 63 = .ok (.invokevirtual 277, 3) := by decide +kernel
theorem dX10_waits_66 : decode cX10_waits 66 = .ok (.iconst 1, 1) := by decide +kernel
theorem dX10_waits_67 : decode cX10_waits 67 = .ok (.ireturn, 1) := by decide +kernel
theorem dX10_scoreOf_0 : decode cX10_scoreOf 0 = .ok (.aload_n 0, 1) := by decide +kernel
theorem dX10_scoreOf_1 : decode cX10_scoreOf 1 = .ok (.iload_n 1, 1) := by decide +kernel
theorem dX10_scoreOf_2 : decode cX10_scoreOf 2 = .ok (.iconst 2, 1) := by decide +kernel
theorem dX10_scoreOf_3 : decode cX10_scoreOf 3 = .ok (.bipush 21, 2) := by decide +kernel
theorem dX10_scoreOf_5 : decode cX10_scoreOf 5 = .ok (.iconst 2, 1) := by decide +kernel
theorem dX10_scoreOf_6 : decode cX10_scoreOf 6 = .ok (.invokevirtual 170, 3) := by decide +kernel
theorem dX10_scoreOf_9 : decode cX10_scoreOf 9 = .ok (.aload_n 0, 1) := by decide +kernel
theorem dX10_scoreOf_10 : decode cX10_scoreOf 10 = .ok (.getfield 308, 3) := by decide +kernel
theorem dX10_scoreOf_13 : decode cX10_scoreOf 13 = .ok (.i2l, 1) := by decide +kernel
theorem dX10_scoreOf_14 : decode cX10_scoreOf 14 = .ok (.lxor, 1) := by decide +kernel
theorem dX10_scoreOf_15 : decode cX10_scoreOf 15 = .ok (.lstore_n 2, 1) := by decide +kernel
theorem dX10_scoreOf_16 : decode cX10_scoreOf 16 = .ok (.iconst 0, 1) := by decide +kernel
theorem dX10_scoreOf_17 : decode cX10_scoreOf 17 = .ok (.istore 4, 2) := by decide +kernel
theorem dX10_scoreOf_19 : decode cX10_scoreOf 19 = .ok (.iconst 0, 1) := by decide +kernel
theorem dX10_scoreOf_20 : decode cX10_scoreOf 20 = .ok (.istore 5, 2) := by decide +kernel
theorem dX10_scoreOf_22 : decode cX10_scoreOf 22 = .ok (.iload 5, 2) := by decide +kernel
theorem dX10_scoreOf_24 : decode cX10_scoreOf 24 = .ok (.bipush 16, 2) := by decide +kernel
theorem dX10_scoreOf_26 : decode cX10_scoreOf 26 = .ok (.if_icmp .ge 30, 3) := by decide +kernel
theorem dX10_scoreOf_29 : decode cX10_scoreOf 29 = .ok (.iload 4, 2) := by decide +kernel
theorem dX10_scoreOf_31 : decode cX10_scoreOf 31 = .ok (.lload_n 2, 1) := by decide +kernel
theorem dX10_scoreOf_32 : decode cX10_scoreOf 32 = .ok (.iload 5, 2) := by decide +kernel
theorem dX10_scoreOf_34 : decode cX10_scoreOf 34 = .ok (.lshr, 1) := by decide +kernel
theorem dX10_scoreOf_35 : decode cX10_scoreOf 35 = .ok (.lconst 1, 1) := by decide +kernel
theorem dX10_scoreOf_36 : decode cX10_scoreOf 36 = .ok (.land, 1) := by decide +kernel
theorem dX10_scoreOf_37 : decode cX10_scoreOf 37 = .ok (.lconst 0, 1) := by decide +kernel
theorem dX10_scoreOf_38 : decode cX10_scoreOf 38 = .ok (.lcmp, 1) := by decide +kernel
theorem dX10_scoreOf_39 : decode cX10_scoreOf 39 = .ok (.ifCond .ne 7, 3) := by decide +kernel
theorem dX10_scoreOf_42 : decode cX10_scoreOf 42 = .ok (.iconst 1, 1) := by decide +kernel
theorem dX10_scoreOf_43 : decode cX10_scoreOf 43 = .ok (.goto 4, 3) := by decide +kernel
theorem dX10_scoreOf_46 : decode cX10_scoreOf 46 = .ok (.iconst 0, 1) := by decide +kernel
theorem dX10_scoreOf_47 : decode cX10_scoreOf 47 = .ok (.iadd, 1) := by decide +kernel
theorem dX10_scoreOf_48 : decode cX10_scoreOf 48 = .ok (.istore 4, 2) := by decide +kernel
theorem dX10_scoreOf_50 : decode cX10_scoreOf 50 = .ok (.iinc 5 1, 3) := by decide +kernel
theorem dX10_scoreOf_53 : decode cX10_scoreOf 53 = .ok (.goto (-31), 3) := by decide +kernel
theorem dX10_scoreOf_56 : decode cX10_scoreOf 56 = .ok (.iload 4, 2) := by decide +kernel
theorem dX10_scoreOf_58 : decode cX10_scoreOf 58 = .ok (.ireturn, 1) := by decide +kernel
theorem dX10_isOpenNow_0 : decode cX10_isOpenNow 0 = .ok (.aload_n 0, 1) := by decide +kernel
theorem dX10_isOpenNow_1 : decode cX10_isOpenNow 1 = .ok (.getfield 182, 3) := by decide +kernel
theorem dX10_isOpenNow_4 : decode cX10_isOpenNow 4 = .ok (.ldc2_w 311, 3) := by decide +kernel
theorem dX10_isOpenNow_7 : decode cX10_isOpenNow 7 = .ok (.lrem, 1) := by decide +kernel
theorem dX10_isOpenNow_8 : decode cX10_isOpenNow 8 = .ok (.l2i, 1) := by decide +kernel
theorem dX10_isOpenNow_9 : decode cX10_isOpenNow 9 = .ok (.istore_n 1, 1) := by decide +kernel
theorem dX10_isOpenNow_10 : decode cX10_isOpenNow 10 = .ok (.aload_n 0, 1) := by decide +kernel
theorem dX10_isOpenNow_11 : decode cX10_isOpenNow 11 = .ok (.getfield 63, 3) := by decide +kernel
theorem dX10_isOpenNow_14 : decode cX10_isOpenNow 14 = .ok (.bipush 7, 2) := by decide +kernel
theorem dX10_isOpenNow_16 : decode cX10_isOpenNow 16 = .ok (.iaload, 1) := by decide +kernel
theorem dX10_isOpenNow_17 : decode cX10_isOpenNow 17 = .ok (.istore_n 2, 1) := by decide +kernel
theorem dX10_isOpenNow_18 : decode cX10_isOpenNow 18 = .ok (.aload_n 0, 1) := by decide +kernel
theorem dX10_isOpenNow_19 : decode cX10_isOpenNow 19 = .ok (.getfield 63, 3) := by decide +kernel
theorem dX10_isOpenNow_22 : decode cX10_isOpenNow 22 = .ok (.bipush 8, 2) := by decide +kernel
theorem dX10_isOpenNow_24 : decode cX10_isOpenNow 24 = .ok (.iaload, 1) := by decide +kernel
theorem dX10_isOpenNow_25 : decode cX10_isOpenNow 25 = .ok (.istore_n 3, 1) := by decide +kernel
theorem dX10_isOpenNow_26 : decode cX10_isOpenNow 26 = .ok (.iload_n 2, 1) := by decide +kernel
theorem dX10_isOpenNow_27 : decode cX10_isOpenNow 27 = .ok (.iload_n 3, 1) := by decide +kernel
theorem dX10_isOpenNow_28 : decode cX10_isOpenNow 28 = .ok (.if_icmp .gt 21, 3) := by decide +kernel
theorem dX10_isOpenNow_31 : decode cX10_isOpenNow 31 = .ok (.iload_n 1, 1) := by decide +kernel
theorem dX10_isOpenNow_32 : decode cX10_isOpenNow 32 = .ok (.iload_n 2, 1) := by decide +kernel
theorem dX10_isOpenNow_33 : decode cX10_isOpenNow 33 = .ok (.if_icmp .lt 12, 3) := by decide +kernel
theorem dX10_isOpenNow_36 : decode cX10_isOpenNow 36 = .ok (.iload_n 1, 1) := by decide +kernel
theorem dX10_isOpenNow_37 : decode cX10_isOpenNow 37 = .ok (.iload_n 3, 1) := by decide +kernel
theorem dX10_isOpenNow_38 : decode cX10_isOpenNow 38 = .ok (.if_icmp .gt 7, 3) := by decide +kernel
theorem dX10_isOpenNow_41 : decode cX10_isOpenNow 41 = .ok (.iconst 1, 1) := by decide +kernel
theorem dX10_isOpenNow_42 : decode cX10_isOpenNow 42 = .ok (.goto 22, 3) := by decide +kernel
theorem dX10_isOpenNow_45 : decode cX10_isOpenNow 45 = .ok (.iconst 0, 1) := by decide +kernel
theorem dX10_isOpenNow_46 : decode cX10_isOpenNow 46 = .ok (.goto 18, 3) := by decide +kernel
theorem dX10_isOpenNow_49 : decode cX10_isOpenNow 49 = .ok (.iload_n 1, 1) := by decide +kernel
theorem dX10_isOpenNow_50 : decode cX10_isOpenNow 50 = .ok (.iload_n 2, 1) := by decide +kernel
theorem dX10_isOpenNow_51 : decode cX10_isOpenNow 51 = .ok (.if_icmp .ge 8, 3) := by decide +kernel
theorem dX10_isOpenNow_54 : decode cX10_isOpenNow 54 = .ok (.iload_n 1, 1) := by decide +kernel
theorem dX10_isOpenNow_55 : decode cX10_isOpenNow 55 = .ok (.iload_n 3, 1) := by decide +kernel
theorem dX10_isOpenNow_56 : decode cX10_isOpenNow 56 = .ok (.if_icmp .gt 7, 3) := by decide +kernel
theorem dX10_isOpenNow_59 : decode cX10_isOpenNow 59 = .ok (.iconst 1, 1) := by decide +kernel
theorem dX10_isOpenNow_60 : decode cX10_isOpenNow 60 = .ok (.goto 4, 3) := by decide +kernel
theorem dX10_isOpenNow_63 : decode cX10_isOpenNow 63 = .ok (.iconst 0, 1) := by decide +kernel
theorem dX10_isOpenNow_64 : decode cX10_isOpenNow 64 = .ok (.ireturn, 1) := by decide +kernel
theorem dX10_set_0 : decode cX10_set 0 = .ok (.iconst 0, 1) := by decide +kernel
theorem dX10_set_1 : decode cX10_set 1 = .ok (.istore 6, 2) := by decide +kernel
theorem dX10_set_3 : decode cX10_set 3 = .ok (.iload 6, 2) := by decide +kernel
theorem dX10_set_5 : decode cX10_set 5 = .ok (.iload 5, 2) := by decide +kernel
theorem dX10_set_7 : decode cX10_set 7 = .ok (.if_icmp .ge 34, 3) := by decide +kernel
theorem dX10_set_10 : decode cX10_set 10 = .ok (.aload_n 0, 1) := by decide +kernel
theorem dX10_set_11 : decode cX10_set 11 = .ok (.getfield 41, 3) := by decide +kernel
theorem dX10_set_14 : decode cX10_set 14 = .ok (.iload_n 1, 1) := by decide +kernel
theorem dX10_set_15 : decode cX10_set 15 = .ok (.iload_n 2, 1) := by decide +kernel
theorem dX10_set_16 : decode cX10_set 16 = .ok (.iadd, 1) := by decide +kernel
theorem dX10_set_17 : decode cX10_set 17 = .ok (.iload 6, 2) := by decide +kernel
theorem dX10_set_19 : decode cX10_set 19 = .ok (.iadd, 1) := by decide +kernel
theorem dX10_set_20 : decode cX10_set 20 = .ok (.lload_n 3, 1) := by decide +kernel
theorem dX10_set_21 : decode cX10_set 21 = .ok (.bipush 8, 2) := by decide +kernel
theorem dX10_set_23 : decode cX10_set 23 = .ok (.iload 5, 2) := by decide +kernel
theorem dX10_set_25 : decode cX10_set 25 = .ok (.iconst 1, 1) := by decide +kernel
theorem dX10_set_26 : decode cX10_set 26 = .ok (.isub, 1) := by decide +kernel
theorem dX10_set_27 : decode cX10_set 27 = .ok (.iload 6, 2) := by decide +kernel
theorem dX10_set_29 : decode cX10_set 29 = .ok (.isub, 1) := by decide +kernel
theorem dX10_set_30 : decode cX10_set 30 = .ok (.imul, 1) := by decide +kernel
theorem dX10_set_31 : decode cX10_set 31 = .ok (.lushr, 1) := by decide +kernel
theorem dX10_set_32 : decode cX10_set 32 = .ok (.l2i, 1) := by decide +kernel
theorem dX10_set_33 : decode cX10_set 33 = .ok (.i2b, 1) := by decide +kernel
theorem dX10_set_34 : decode cX10_set 34 = .ok (.bastore, 1) := by decide +kernel
theorem dX10_set_35 : decode cX10_set 35 = .ok (.iinc 6 1, 3) := by decide +kernel
theorem dX10_set_38 : decode cX10_set 38 = .ok (.goto (-35), 3) := by decide +kernel
theorem dX10_set_41 : decode cX10_set 41 = .ok (.return_, 1) := by decide +kernel
theorem dX10_writes_0 : decode cX10_writes 0 = .ok (.aload_n 0, 1) := by decide +kernel
theorem dX10_writes_1 : decode cX10_writes 1 = .ok (.iload_n 1, 1) := by decide +kernel
theorem dX10_writes_2 : decode cX10_writes 2 = .ok (.invokevirtual 296, 3) := by decide +kernel
theorem dX10_writes_5 : decode cX10_writes 5 = .ok (.ifCond .ne 21, 3) := by decide +kernel
theorem dX10_writes_8 : decode cX10_writes 8 = .ok (.aload_n 0, 1) := by decide +kernel
theorem dX10_writes_9 : decode cX10_writes 9 = .ok (.iconst 5, 1) := by decide +kernel
theorem dX10_writes_10 : decode cX10_writes 10 = .ok (.iconst 1, 1) := by decide +kernel
theorem dX10_writes_11 : decode cX10_writes 11 = .ok (.iload_n 1, 1) := by decide +kernel
theorem dX10_writes_12 : decode cX10_writes 12 = .ok (.invokevirtual 239, 3) := by decide +kernel
theorem dX10_writes_15 : decode cX10_writes 15 = .ok (.ifCond .eq 10, 3) := by decide +kernel
theorem dX10_writes_18 : decode cX10_writes 18 = .ok (.aload_n 0, 1) := by decide +kernel
theorem dX10_writes_19 : decode cX10_writes 19 = .ok (.bipush 7, 2) := by decide +kernel
theorem dX10_writes_21 : decode cX10_writes 21 = .ok (.iconst 5, 1) := by decide +kernel
theorem dX10_writes_22 : decode cX10_writes 22 = .ok (.invokevirtual 277, 3) := by decide +kernel
theorem dX10_writes_25 : decode cX10_writes 25 = .ok (.return_, 1) := by decide +kernel
theorem dX10_writes_26 : decode cX10_writes 26 = .ok (.aload_n 0, 1) := by decide +kernel
theorem dX10_writes_27 : decode cX10_writes 27 = .ok (.getfield 47, 3) := by decide +kernel
theorem dX10_writes_30 : decode cX10_writes 30 = .ok (.iload_n 1, 1) := by decide +kernel
theorem dX10_writes_31 : decode cX10_writes 31 = .ok (.baload, 1) := by decide +kernel
theorem dX10_writes_32 : decode cX10_writes 32 = .ok (.ifCond .ne 22, 3) := by decide +kernel
theorem dX10_writes_35 : decode cX10_writes 35 = .ok (.aload_n 0, 1) := by decide +kernel
theorem dX10_writes_36 : decode cX10_writes 36 = .ok (.bipush 11, 2) := by decide +kernel
theorem dX10_writes_38 : decode cX10_writes 38 = .ok (.iconst 1, 1) := by decide +kernel
theorem dX10_writes_39 : decode cX10_writes 39 = .ok (.iload_n 1, 1) := by decide +kernel
theorem dX10_writes_40 : decode cX10_writes 40 = .ok (.invokevirtual 239, 3) := by decide +kernel
theorem dX10_writes_43 : decode cX10_writes 43 = .ok (.ifCond .eq 10, 3) := by decide +kernel
theorem dX10_writes_46 : decode cX10_writes 46 = .ok (.aload_n 0, 1) := by decide +kernel
theorem dX10_writes_47 : decode cX10_writes 47 = .ok (.iconst 5, 1) := by decide +kernel
theorem dX10_writes_48 : decode cX10_writes 48 = .ok (.bipush 6, 2) := by decide +kernel
theorem dX10_writes_50 : decode cX10_writes 50 = .ok (.invokevirtual 277, 3) := by decide +kernel
theorem dX10_writes_53 : decode cX10_writes 53 = .ok (.return_, 1) := by decide +kernel
theorem dX10_writes_54 : decode cX10_writes 54 = .ok (.aload_n 0, 1) := by decide +kernel
theorem dX10_writes_55 : decode cX10_writes 55 = .ok (.bipush 10, 2) := by decide +kernel
theorem dX10_writes_57 : decode cX10_writes 57 = .ok (.iconst 0, 1) := by decide +kernel
theorem dX10_writes_58 : decode cX10_writes 58 = .ok (.iload_n 1, 1) := by decide +kernel
theorem dX10_writes_59 : decode cX10_writes 59 = .ok (.invokevirtual 239, 3) := by decide +kernel
theorem dX10_writes_62 : decode cX10_writes 62 = .ok (.ifCond .ne 4, 3) := by decide +kernel
theorem dX10_writes_65 : decode cX10_writes 65 = .ok (.return_, 1) := by decide +kernel
theorem dX10_writes_66 : decode cX10_writes 66 = .ok (.bipush 48, 2) := by decide +kernel
theorem dX10_writes_68 : decode cX10_writes 68 = .ok (.iconst 4, 1) := by decide +kernel
theorem dX10_writes_69 : decode cX10_writes 69 = .ok (.iload_n 1, 1) := by decide +kernel
theorem dX10_writes_70 : decode cX10_writes 70 = .ok (.imul, 1) := by decide +kernel
theorem dX10_writes_71 : decode cX10_writes 71 = .ok (.iconst 3, 1) := by decide +kernel
theorem dX10_writes_72 : decode cX10_writes 72 = .ok (.iadd, 1) := by decide +kernel
theorem dX10_writes_73 : decode cX10_writes 73 = .ok (.imul, 1) := by decide +kernel
theorem dX10_writes_74 : decode cX10_writes 74 = .ok (.istore_n 2, 1) := by decide +kernel
theorem dX10_writes_75 : decode cX10_writes 75 = .ok (.aload_n 0, 1) := by decide +kernel
theorem dX10_writes_76 : decode cX10_writes 76 = .ok (.iload_n 2, 1) := by decide +kernel
theorem dX10_writes_77 : decode cX10_writes 77 = .ok (.iconst 0, 1) := by decide +kernel
theorem dX10_writes_78 : decode cX10_writes 78 = .ok (.ldc2_w 313, 3) := by decide +kernel
theorem dX10_writes_81 : decode cX10_writes 81 = .ok (.iconst 1, 1) := by decide +kernel
theorem dX10_writes_82 : decode cX10_writes 82 = .ok (.invokevirtual 315, 3) := by decide +kernel
theorem dX10_writes_85 : decode cX10_writes 85 = .ok (.aload_n 0, 1) := by decide +kernel
theorem dX10_writes_86 : decode cX10_writes 86 = .ok (.iload_n 2, 1) := by decide +kernel
theorem dX10_writes_87 : decode cX10_writes 87 = .ok (.iconst 1, 1) := by decide +kernel
theorem dX10_writes_88 : decode cX10_writes 88 = .ok (.aload_n 0, 1) := by decide +kernel
theorem dX10_writes_89 : decode cX10_writes 89 = .ok (.getfield 88, 3) := by decide +kernel
theorem dX10_writes_92 : decode cX10_writes 92 = .ok (.i2l, 1) := by decide +kernel
theorem dX10_writes_93 : decode cX10_writes 93 = .ok (.iconst 2, 1) := by decide +kernel
theorem dX10_writes_94 : decode cX10_writes 94 = .ok (.invokevirtual 315, 3) := by decide +kernel
theorem dX10_writes_97 : decode cX10_writes 97 = .ok (.aload_n 0, 1) := by decide +kernel
theorem dX10_writes_98 : decode cX10_writes 98 = .ok (.iload_n 2, 1) := by decide +kernel
theorem dX10_writes_99 : decode cX10_writes 99 = .ok (.iconst 3, 1) := by decide +kernel
theorem dX10_writes_100 : decode cX10_writes 100 = .ok (.aload_n 0, 1) := by decide +kernel
theorem dX10_writes_101 : decode cX10_writes 101 = .ok (.getfield 104, 3) := by decide +kernel
theorem dX10_writes_104 : decode cX10_writes 104 = .ok (.iconst 4, 1) := by decide +kernel
theorem dX10_writes_105 : decode cX10_writes 105 = .ok (.invokevirtual 315, 3) := by decide +kernel
theorem dX10_writes_108 : decode cX10_writes 108 = .ok (.aload_n 0, 1) := by decide +kernel
theorem dX10_writes_109 : decode cX10_writes 109 = .ok (.iload_n 2, 1) := by decide +kernel
theorem dX10_writes_110 : decode cX10_writes 110 = .ok (.bipush 7, 2) := by decide +kernel
theorem dX10_writes_112 : decode cX10_writes 112 = .ok (.aload_n 0, 1) := by decide +kernel
theorem dX10_writes_113 : decode cX10_writes 113 = .ok (.iload_n 1, 1) := by decide +kernel
theorem dX10_writes_114 : decode cX10_writes 114 = .ok (.iconst 0, 1) := by decide +kernel
theorem dX10_writes_115 : decode cX10_writes 115 = .ok (.iconst 1, 1) := by decide +kernel
theorem dX10_writes_116 : decode cX10_writes 116 = .ok (.iconst 2, 1) := by decide +kernel
theorem dX10_writes_117 : decode cX10_writes 117 = .ok (.invokevirtual 170, 3) := by decide +kernel
theorem dX10_writes_120 : decode cX10_writes 120 = .ok (.iconst 2, 1) := by decide +kernel
theorem dX10_writes_121 : decode cX10_writes 121 = .ok (.invokevirtual 315, 3) := by decide +kernel
theorem dX10_writes_124 : decode cX10_writes 124 = .ok (.aload_n 0, 1) := by decide +kernel
theorem dX10_writes_125 : decode cX10_writes 125 = .ok (.iload_n 2, 1) := by decide +kernel
theorem dX10_writes_126 : decode cX10_writes 126 = .ok (.bipush 9, 2) := by decide +kernel
theorem dX10_writes_128 : decode cX10_writes 128 = .ok (.aload_n 0, 1) := by decide +kernel
theorem dX10_writes_129 : decode cX10_writes 129 = .ok (.iload_n 1, 1) := by decide +kernel
theorem dX10_writes_130 : decode cX10_writes 130 = .ok (.iconst 0, 1) := by decide +kernel
theorem dX10_writes_131 : decode cX10_writes 131 = .ok (.iconst 3, 1) := by decide +kernel
theorem dX10_writes_132 : decode cX10_writes 132 = .ok (.iconst 4, 1) := by decide +kernel
theorem dX10_writes_133 : decode cX10_writes 133 = .ok (.invokevirtual 170, 3) := by decide +kernel
theorem dX10_writes_136 : decode cX10_writes 136 = .ok (.iconst 4, 1) := by decide +kernel
theorem dX10_writes_137 : decode cX10_writes 137 = .ok (.invokevirtual 315, 3) := by decide +kernel
theorem dX10_writes_140 : decode cX10_writes 140 = .ok (.aload_n 0, 1) := by decide +kernel
theorem dX10_writes_141 : decode cX10_writes 141 = .ok (.iload_n 2, 1) := by decide +kernel
theorem dX10_writes_142 : decode cX10_writes 142 = .ok (.bipush 13, 2) := by decide +kernel
theorem dX10_writes_144 : decode cX10_writes 144 = .ok (.aload_n 0, 1) := by decide +kernel
theorem dX10_writes_145 : decode cX10_writes 145 = .ok (.getfield 182, 3) := by decide +kernel
theorem dX10_writes_148 : decode cX10_writes 148 = .ok (.iconst 4, 1) := by decide +kernel
theorem dX10_writes_149 : decode cX10_writes 149 = .ok (.invokevirtual 315, 3) := by decide +kernel
theorem dX10_writes_152 : decode cX10_writes 152 = .ok (.aload_n 0, 1) := by decide +kernel
theorem dX10_writes_153 : decode cX10_writes 153 = .ok (.iload_n 2, 1) := by decide +kernel
theorem dX10_writes_154 : decode cX10_writes 154 = .ok (.bipush 17, 2) := by decide +kernel
theorem dX10_writes_156 : decode cX10_writes 156 = .ok (.aload_n 0, 1) := by decide +kernel
theorem dX10_writes_157 : decode cX10_writes 157 = .ok (.getfield 182, 3) := by decide +kernel
theorem dX10_writes_160 : decode cX10_writes 160 = .ok (.aload_n 0, 1) := by decide +kernel
theorem dX10_writes_161 : decode cX10_writes 161 = .ok (.getfield 63, 3) := by decide +kernel
theorem dX10_writes_164 : decode cX10_writes 164 = .ok (.iconst 4, 1) := by decide +kernel
theorem dX10_writes_165 : decode cX10_writes 165 = .ok (.iaload, 1) := by decide +kernel
theorem dX10_writes_166 : decode cX10_writes 166 = .ok (.i2l, 1) := by decide +kernel
theorem dX10_writes_167 : decode cX10_writes 167 = .ok (.ladd, 1) := by decide +kernel
theorem dX10_writes_168 : decode cX10_writes 168 = .ok (.iconst 4, 1) := by decide +kernel
theorem dX10_writes_169 : decode cX10_writes 169 = .ok (.invokevirtual 315, 3) := by decide +kernel
theorem dX10_writes_172 : decode cX10_writes 172 = .ok (.aload_n 0, 1) := by decide +kernel
theorem dX10_writes_173 : decode cX10_writes 173 = .ok (.iload_n 2, 1) := by decide +kernel
theorem dX10_writes_174 : decode cX10_writes 174 = .ok (.bipush 21, 2) := by decide +kernel
theorem dX10_writes_176 : decode cX10_writes 176 = .ok (.aload_n 0, 1) := by decide +kernel
theorem dX10_writes_177 : decode cX10_writes 177 = .ok (.iload_n 1, 1) := by decide +kernel
theorem dX10_writes_178 : decode cX10_writes 178 = .ok (.iconst 1, 1) := by decide +kernel
theorem dX10_writes_179 : decode cX10_writes 179 = .ok (.bipush 21, 2) := by decide +kernel
theorem dX10_writes_181 : decode cX10_writes 181 = .ok (.iconst 1, 1) := by decide +kernel
theorem dX10_writes_182 : decode cX10_writes 182 = .ok (.invokevirtual 170, 3) := by decide +kernel
theorem dX10_writes_185 : decode cX10_writes 185 = .ok (.iconst 1, 1) := by decide +kernel
theorem dX10_writes_186 : decode cX10_writes 186 = .ok (.invokevirtual 315, 3) := by decide +kernel
theorem dX10_writes_189 : decode cX10_writes 189 = .ok (.aload_n 0, 1) := by decide +kernel
theorem dX10_writes_190 : decode cX10_writes 190 = .ok (.iload_n 2, 1) := by decide +kernel
theorem dX10_writes_191 : decode cX10_writes 191 = .ok (.bipush 22, 2) := by decide +kernel
theorem dX10_writes_193 : decode cX10_writes 193 = .ok (.aload_n 0, 1) := by decide +kernel
theorem dX10_writes_194 : decode cX10_writes 194 = .ok (.iload_n 1, 1) := by decide +kernel
theorem dX10_writes_195 : decode cX10_writes 195 = .ok (.iconst 1, 1) := by decide +kernel
theorem dX10_writes_196 : decode cX10_writes 196 = .ok (.bipush 22, 2) := by decide +kernel
theorem dX10_writes_198 : decode cX10_writes 198 = .ok (.iconst 1, 1) := by decide +kernel
theorem dX10_writes_199 : decode cX10_writes 199 = .ok (.invokevirtual 170, 3) := by decide +kernel
theorem dX10_writes_202 : decode cX10_writes 202 = .ok (.iconst 1, 1) := by decide +kernel
theorem dX10_writes_203 : decode cX10_writes 203 = .ok (.invokevirtual 315, 3) := by decide +kernel
theorem dX10_writes_206 : decode cX10_writes 206 = .ok (.aload_n 0, 1) := by decide +kernel
theorem dX10_writes_207 : decode cX10_writes 207 = .ok (.aload_n 0, 1) := by decide +kernel
theorem dX10_writes_208 : decode cX10_writes 208 = .ok (.getfield 54, 3) := by decide +kernel
theorem dX10_writes_211 : decode cX10_writes 211 = .ok (.iconst 0, 1) := by decide +kernel
theorem dX10_writes_212 : decode cX10_writes 212 = .ok (.aload_n 0, 1) := by decide +kernel
theorem dX10_writes_213 : decode cX10_writes 213 = .ok (.getfield 41, 3) := by decide +kernel
theorem dX10_writes_216 : decode cX10_writes 216 = .ok (.iload_n 2, 1) := by decide +kernel
theorem dX10_writes_217 : decode cX10_writes 217 = .ok (.bipush 23, 2) := by decide +kernel
theorem dX10_writes_219 : decode cX10_writes 219 = .ok (.invokevirtual 150, 3) := by decide +kernel
theorem dX10_writes_222 : decode cX10_writes 222 = .ok (.iconst 0, 1) := by decide +kernel
theorem dX10_writes_223 : decode cX10_writes 223 = .ok (.istore_n 3, 1) := by decide +kernel
theorem dX10_writes_224 : decode cX10_writes 224 = .ok (.iload_n 3, 1) := by decide +kernel
theorem dX10_writes_225 : decode cX10_writes 225 = .ok (.bipush 16, 2) := by decide +kernel
theorem dX10_writes_227 : decode cX10_writes 227 = .ok (.if_icmp .ge 26, 3) := by decide +kernel
theorem dX10_writes_230 : decode cX10_writes 230 = .ok (.aload_n 0, 1) := by decide +kernel
theorem dX10_writes_231 : decode cX10_writes 231 = .ok (.getfield 41, 3) := by decide +kernel
theorem dX10_writes_234 : decode cX10_writes 234 = .ok (.iload_n 2, 1) := by decide +kernel
theorem dX10_writes_235 : decode cX10_writes 235 = .ok (.bipush 23, 2) := by decide +kernel
theorem dX10_writes_237 : decode cX10_writes 237 = .ok (.iadd, 1) := by decide +kernel
theorem dX10_writes_238 : decode cX10_writes 238 = .ok (.iload_n 3, 1) := by decide +kernel
theorem dX10_writes_239 : decode cX10_writes 239 = .ok (.iadd, 1) := by decide +kernel
theorem dX10_writes_240 : decode cX10_writes 240 = .ok (.aload_n 0, 1) := by decide +kernel
theorem dX10_writes_241 : decode cX10_writes 241 = .ok (.getfield 32, 3) := by decide +kernel
theorem dX10_writes_244 : decode cX10_writes 244 = .ok (.iload_n 3, 1) := by decide +kernel
theorem dX10_writes_245 : decode cX10_writes 245 = .ok (.baload, 1) := by decide +kernel
theorem dX10_writes_246 : decode cX10_writes 246 = .ok (.bastore, 1) := by decide +kernel
theorem dX10_writes_247 : decode cX10_writes 247 = .ok (.iinc 3 1, 3) := by decide +kernel
theorem dX10_writes_250 : decode cX10_writes 250 = .ok (.goto (-26), 3) := by decide +kernel
theorem dX10_writes_253 : decode cX10_writes 253 = .ok (.aload_n 0, 1) := by decide +kernel
theorem dX10_writes_254 : decode cX10_writes 254 = .ok (.getfield 44, 3) := by decide +kernel
theorem dX10_writes_257 : decode cX10_writes 257 = .ok (.iconst 4, 1) := by decide +kernel
theorem dX10_writes_258 : decode cX10_writes 258 = .ok (.iload_n 1, 1) := by decide +kernel
theorem dX10_writes_259 : decode cX10_writes 259 = .ok (.imul, 1) := by decide +kernel
theorem dX10_writes_260 : decode cX10_writes 260 = .ok (.iconst 3, 1) := by decide +kernel
theorem dX10_writes_261 : decode cX10_writes 261 = .ok (.iadd, 1) := by decide +kernel
theorem dX10_writes_262 : decode cX10_writes 262 = .ok (.bipush 39, 2) := by decide +kernel
theorem dX10_writes_264 : decode cX10_writes 264 = .ok (.iastore, 1) := by decide +kernel
theorem dX10_writes_265 : decode cX10_writes 265 = .ok (.aload_n 0, 1) := by decide +kernel
theorem dX10_writes_266 : decode cX10_writes 266 = .ok (.dup, 1) := by decide +kernel
theorem dX10_writes_267 : decode cX10_writes 267 = .ok (.getfield 104, 3) := by decide +kernel
theorem dX10_writes_270 : decode cX10_writes 270 = .ok (.lconst 1, 1) := by decide +kernel
theorem dX10_writes_271 : decode cX10_writes 271 = .ok (.ladd, 1) := by decide +kernel
theorem dX10_writes_272 : decode cX10_writes 272 = .ok (.putfield 104, 3) := by decide +kernel
theorem dX10_writes_275 : decode cX10_writes 275 = .ok (.aload_n 0, 1) := by decide +kernel
theorem dX10_writes_276 : decode cX10_writes 276 = .ok (.iconst 5, 1) := by decide +kernel
theorem dX10_writes_277 : decode cX10_writes 277 = .ok (.iconst 3, 1) := by decide +kernel
theorem dX10_writes_278 : decode cX10_writes 278 = .ok (.invokevirtual 277, 3) := by decide +kernel
theorem dX10_writes_281 : decode cX10_writes 281 = .ok (.return_, 1) := by decide +kernel
theorem dX10_leaves_0 : decode cX10_leaves 0 = .ok (.aload_n 0, 1) := by decide +kernel
theorem dX10_leaves_1 : decode cX10_leaves 1 = .ok (.getfield 69, 3) := by decide +kernel
theorem dX10_leaves_4 : decode cX10_leaves 4 = .ok (.ifCond .ge 36, 3) := by decide +kernel
theorem dX10_leaves_7 : decode cX10_leaves 7 = .ok (.aload_n 0, 1) := by decide +kernel
theorem dX10_leaves_8 : decode cX10_leaves 8 = .ok (.bipush 14, 2) := by decide +kernel
theorem dX10_leaves_10 : decode cX10_leaves 10 = .ok (.iconst 0, 1) := by decide +kernel
theorem dX10_leaves_11 : decode cX10_leaves 11 = .ok (.iload_n 1, 1) := by decide +kernel
theorem dX10_leaves_12 : decode cX10_leaves 12 = .ok (.invokevirtual 239, 3) := by decide +kernel
theorem dX10_leaves_15 : decode cX10_leaves 15 = .ok (.ifCond .eq 23, 3) := by decide +kernel
theorem dX10_leaves_18 : decode cX10_leaves 18 = .ok (.aload_n 0, 1) := by decide +kernel
theorem dX10_leaves_19 : decode cX10_leaves 19 = .ok (.bipush 22, 2) := by decide +kernel
theorem dX10_leaves_21 : decode cX10_leaves 21 = .ok (.iconst 0, 1) := by decide +kernel
theorem dX10_leaves_22 : decode cX10_leaves 22 = .ok (.iload_n 1, 1) := by decide +kernel
theorem dX10_leaves_23 : decode cX10_leaves 23 = .ok (.invokevirtual 239, 3) := by decide +kernel
theorem dX10_leaves_26 : decode cX10_leaves 26 = .ok (.ifCond .eq 12, 3) := by decide +kernel
theorem dX10_leaves_29 : decode cX10_leaves 29 = .ok (.aload_n 0, 1) := by decide +kernel
theorem dX10_leaves_30 : decode cX10_leaves 30 = .ok (.iconst 0, 1) := by decide +kernel
theorem dX10_leaves_31 : decode cX10_leaves 31 = .ok (.putfield 246, 3) := by decide +kernel
theorem dX10_leaves_34 : decode cX10_leaves 34 = .ok (.aload_n 0, 1) := by decide +kernel
theorem dX10_leaves_35 : decode cX10_leaves 35 = .ok (.invokevirtual 319, 3) := by decide +kernel
theorem dX10_leaves_38 : decode cX10_leaves 38 = .ok (.iconst 1, 1) := by decide +kernel
theorem dX10_leaves_39 : decode cX10_leaves 39 = .ok (.ireturn, 1) := by decide +kernel
theorem dX10_leaves_40 : decode cX10_leaves 40 = .ok (.aload_n 0, 1) := by decide +kernel
theorem dX10_leaves_41 : decode cX10_leaves 41 = .ok (.getfield 182, 3) := by decide +kernel
theorem dX10_leaves_44 : decode cX10_leaves 44 = .ok (.aload_n 0, 1) := by decide +kernel
theorem dX10_leaves_45 : decode cX10_leaves 45 = .ok (.getfield 302, 3) := by decide +kernel
theorem dX10_leaves_48 : decode cX10_leaves 48 = .ok (.lcmp, 1) := by decide +kernel
theorem dX10_leaves_49 : decode cX10_leaves 49 = .ok (.ifCond .gt 5, 3) := by decide +kernel
theorem dX10_leaves_52 : decode cX10_leaves 52 = .ok (.iconst 0, 1) := by decide +kernel
theorem dX10_leaves_53 : decode cX10_leaves 53 = .ok (.ireturn, 1) := by decide +kernel
theorem dX10_leaves_54 : decode cX10_leaves 54 = .ok (.aload_n 0, 1) := by decide +kernel
theorem dX10_leaves_55 : decode cX10_leaves 55 = .ok (.bipush 15, 2) := by decide +kernel
theorem dX10_leaves_57 : decode cX10_leaves 57 = .ok (.iconst 1, 1) := by decide +kernel
theorem dX10_leaves_58 : decode cX10_leaves 58 = .ok (.iload_n 1, 1) := by decide +kernel
theorem dX10_leaves_59 : decode cX10_leaves 59 = .ok (.invokevirtual 239, 3) := by decide +kernel
theorem dX10_leaves_62 : decode cX10_leaves 62 = .ok (.ifCond .eq 10, 3) := by decide +kernel
theorem dX10_leaves_65 : decode cX10_leaves 65 = .ok (.aload_n 0, 1) := by decide +kernel
theorem dX10_leaves_66 : decode cX10_leaves 66 = .ok (.bipush 7, 2) := by decide +kernel
theorem dX10_leaves_68 : decode cX10_leaves 68 = .ok (.iconst 5, 1) := by decide +kernel
theorem dX10_leaves_69 : decode cX10_leaves 69 = .ok (.invokevirtual 277, 3) := by decide +kernel
theorem dX10_leaves_72 : decode cX10_leaves 72 = .ok (.iconst 1, 1) := by decide +kernel
theorem dX10_leaves_73 : decode cX10_leaves 73 = .ok (.ireturn, 1) := by decide +kernel
theorem dX10_insideTo_0 : decode cX10_insideTo 0 = .ok (.aload_n 0, 1) := by decide +kernel
theorem dX10_insideTo_1 : decode cX10_insideTo 1 = .ok (.iload_n 1, 1) := by decide +kernel
theorem dX10_insideTo_2 : decode cX10_insideTo 2 = .ok (.putfield 227, 3) := by decide +kernel
theorem dX10_insideTo_5 : decode cX10_insideTo 5 = .ok (.aload_n 0, 1) := by decide +kernel
theorem dX10_insideTo_6 : decode cX10_insideTo 6 = .ok (.iload_n 2, 1) := by decide +kernel
theorem dX10_insideTo_7 : decode cX10_insideTo 7 = .ok (.putfield 82, 3) := by decide +kernel
theorem dX10_insideTo_10 : decode cX10_insideTo 10 = .ok (.return_, 1) := by decide +kernel
theorem dX10_actInside_0 : decode cX10_actInside 0 = .ok (.aload_n 0, 1) := by decide +kernel
theorem dX10_actInside_1 : decode cX10_actInside 1 = .ok (.getfield 94, 3) := by decide +kernel
theorem dX10_actInside_4 : decode cX10_actInside 4 = .ok (.istore_n 1, 1) := by decide +kernel
theorem dX10_actInside_5 : decode cX10_actInside 5 = .ok (.aload_n 0, 1) := by decide +kernel
theorem dX10_actInside_6 : decode cX10_actInside 6 = .ok (.getfield 227, 3) := by decide +kernel
theorem dX10_actInside_9 : decode cX10_actInside 9 = .ok (.tableswitch 233 0 4 #[35, 51, 69, 89, 200], 35) := by decide +kernel
theorem dX10_actInside_44 : decode cX10_actInside 44 = .ok (.aload_n 0, 1) := by decide +kernel
theorem dX10_actInside_45 : decode cX10_actInside 45 = .ok (.getfield 79, 3) := by decide +kernel
theorem dX10_actInside_48 : decode cX10_actInside 48 = .ok (.ifCond .ge 5, 3) := by decide +kernel
theorem dX10_actInside_51 : decode cX10_actInside 51 = .ok (.iconst 0, 1) := by decide +kernel
theorem dX10_actInside_52 : decode cX10_actInside 52 = .ok (.ireturn, 1) := by decide +kernel
theorem dX10_actInside_53 : decode cX10_actInside 53 = .ok (.aload_n 0, 1) := by decide +kernel
theorem dX10_actInside_54 : decode cX10_actInside 54 = .ok (.iconst (-1), 1) := by decide +kernel
theorem dX10_actInside_55 : decode cX10_actInside 55 = .ok (.invokevirtual 322, 3) := by decide +kernel
theorem dX10_actInside_58 : decode cX10_actInside 58 = .ok (.iconst 1, 1) := by decide +kernel
theorem dX10_actInside_59 : decode cX10_actInside 59 = .ok (.ireturn, 1) := by decide +kernel
theorem dX10_actInside_60 : decode cX10_actInside 60 = .ok (.aload_n 0, 1) := by decide +kernel
theorem dX10_actInside_61 : decode cX10_actInside 61 = .ok (.getfield 79, 3) := by decide +kernel
theorem dX10_actInside_64 : decode cX10_actInside 64 = .ok (.ifCond .lt 5, 3) := by decide +kernel
theorem dX10_actInside_67 : decode cX10_actInside 67 = .ok (.iconst 0, 1) := by decide +kernel
theorem dX10_actInside_68 : decode cX10_actInside 68 = .ok (.ireturn, 1) := by decide +kernel
theorem dX10_actInside_69 : decode cX10_actInside 69 = .ok (.aload_n 0, 1) := by decide +kernel
theorem dX10_actInside_70 : decode cX10_actInside 70 = .ok (.iconst 0, 1) := by decide +kernel
theorem dX10_actInside_71 : decode cX10_actInside 71 = .ok (.bipush 8, 2) := by decide +kernel
theorem dX10_actInside_73 : decode cX10_actInside 73 = .ok (.invokevirtual 325, 3) := by decide +kernel
theorem dX10_actInside_76 : decode cX10_actInside 76 = .ok (.iconst 1, 1) := by decide +kernel
theorem dX10_actInside_77 : decode cX10_actInside 77 = .ok (.ireturn, 1) := by decide +kernel
theorem dX10_actInside_78 : decode cX10_actInside 78 = .ok (.aload_n 0, 1) := by decide +kernel
theorem dX10_actInside_79 : decode cX10_actInside 79 = .ok (.getfield 85, 3) := by decide +kernel
theorem dX10_actInside_82 : decode cX10_actInside 82 = .ok (.ifCond .ge 10, 3) := by decide +kernel
theorem dX10_actInside_85 : decode cX10_actInside 85 = .ok (.aload_n 0, 1) := by decide +kernel
theorem dX10_actInside_86 : decode cX10_actInside 86 = .ok (.invokevirtual 328, 3) := by decide +kernel
theorem dX10_actInside_89 : decode cX10_actInside 89 = .ok (.goto 8, 3) := by decide +kernel
theorem dX10_actInside_92 : decode cX10_actInside 92 = .ok (.aload_n 0, 1) := by decide +kernel
theorem dX10_actInside_93 : decode cX10_actInside 93 = .ok (.iload_n 1, 1) := by decide +kernel
theorem dX10_actInside_94 : decode cX10_actInside 94 = .ok (.invokevirtual 331, 3) := by decide +kernel
theorem dX10_actInside_97 : decode cX10_actInside 97 = .ok (.ireturn, 1) := by decide +kernel
theorem dX10_actInside_98 : decode cX10_actInside 98 = .ok (.aload_n 0, 1) := by decide +kernel
theorem dX10_actInside_99 : decode cX10_actInside 99 = .ok (.getfield 73, 3) := by decide +kernel
theorem dX10_actInside_102 : decode cX10_actInside 102 = .ok (.aload_n 0, 1) := by decide +kernel
theorem dX10_actInside_103 : decode cX10_actInside 103 = .ok (.getfield 94, 3) := by decide +kernel
theorem dX10_actInside_106 : decode cX10_actInside 106 = .ok (.if_icmp .eq 28, 3) := by decide +kernel
theorem dX10_actInside_109 : decode cX10_actInside 109 = .ok (.aload_n 0, 1) := by decide +kernel
theorem dX10_actInside_110 : decode cX10_actInside 110 = .ok (.bipush 43, 2) := by decide +kernel
theorem dX10_actInside_112 : decode cX10_actInside 112 = .ok (.iconst 1, 1) := by decide +kernel
theorem dX10_actInside_113 : decode cX10_actInside 113 = .ok (.iload_n 1, 1) := by decide +kernel
theorem dX10_actInside_114 : decode cX10_actInside 114 = .ok (.invokevirtual 239, 3) := by decide +kernel
theorem dX10_actInside_117 : decode cX10_actInside 117 = .ok (.ifCond .eq 90, 3) := by decide +kernel
theorem dX10_actInside_120 : decode cX10_actInside 120 = .ok (.aload_n 0, 1) := by decide +kernel
theorem dX10_actInside_121 : decode cX10_actInside 121 = .ok (.iconst 2, 1) := by decide +kernel
theorem dX10_actInside_122 : decode cX10_actInside 122 = .ok (.iconst 1, 1) := by decide +kernel
theorem dX10_actInside_123 : decode cX10_actInside 123 = .ok (.invokevirtual 325, 3) := by decide +kernel
theorem dX10_actInside_126 : decode cX10_actInside 126 = .ok (.aload_n 0, 1) := by decide +kernel
theorem dX10_actInside_127 : decode cX10_actInside 127 = .ok (.iconst (-1), 1) := by decide +kernel
theorem dX10_actInside_128 : decode cX10_actInside 128 = .ok (.putfield 94, 3) := by decide +kernel
theorem dX10_actInside_131 : decode cX10_actInside 131 = .ok (.goto 76, 3) := by decide +kernel
theorem dX10_actInside_134 : decode cX10_actInside 134 = .ok (.aload_n 0, 1) := by decide +kernel
theorem dX10_actInside_135 : decode cX10_actInside 135 = .ok (.iload_n 1, 1) := by decide +kernel
theorem dX10_actInside_136 : decode cX10_actInside 136 = .ok (.invokevirtual 293, 3) := by decide +kernel
theorem dX10_actInside_139 : decode cX10_actInside 139 = .ok (.ifCond .eq 51, 3) := by decide +kernel
theorem dX10_actInside_142 : decode cX10_actInside 142 = .ok (.aload_n 0, 1) := by decide +kernel
theorem dX10_actInside_143 : decode cX10_actInside 143 = .ok (.iload_n 1, 1) := by decide +kernel
theorem dX10_actInside_144 : decode cX10_actInside 144 = .ok (.iconst 3, 1) := by decide +kernel
theorem dX10_actInside_145 : decode cX10_actInside 145 = .ok (.bipush 21, 2) := by decide +kernel
theorem dX10_actInside_147 : decode cX10_actInside 147 = .ok (.iconst 1, 1) := by decide +kernel
theorem dX10_actInside_148 : decode cX10_actInside 148 = .ok (.invokevirtual 170, 3) := by decide +kernel
theorem dX10_actInside_151 : decode cX10_actInside 151 = .ok (.lconst 0, 1) := by decide +kernel
theorem dX10_actInside_152 : decode cX10_actInside 152 = .ok (.lcmp, 1) := by decide +kernel
theorem dX10_actInside_153 : decode cX10_actInside 153 = .ok (.ifCond .le 37, 3) := by decide +kernel
theorem dX10_actInside_156 : decode cX10_actInside 156 = .ok (.aload_n 0, 1) := by decide +kernel
theorem dX10_actInside_157 : decode cX10_actInside 157 = .ok (.bipush 44, 2) := by decide +kernel
theorem dX10_actInside_159 : decode cX10_actInside 159 = .ok (.iconst 0, 1) := by decide +kernel
theorem dX10_actInside_160 : decode cX10_actInside 160 = .ok (.iload_n 1, 1) := by decide +kernel
theorem dX10_actInside_161 : decode cX10_actInside 161 = .ok (.invokevirtual 239, 3) := by decide +kernel
theorem dX10_actInside_164 : decode cX10_actInside 164 = .ok (.ifCond .eq 43, 3) := by decide +kernel
theorem dX10_actInside_167 : decode cX10_actInside 167 = .ok (.aload_n 0, 1) := by decide +kernel
theorem dX10_actInside_168 : decode cX10_actInside 168 = .ok (.iconst 2, 1) := by decide +kernel
theorem dX10_actInside_169 : decode cX10_actInside 169 = .ok (.iconst 5, 1) := by decide +kernel
theorem dX10_actInside_170 : decode cX10_actInside 170 = .ok (.invokevirtual 325, 3) := by decide +kernel
theorem dX10_actInside_173 : decode cX10_actInside 173 = .ok (.aload_n 0, 1) := by decide +kernel
theorem dX10_actInside_174 : decode cX10_actInside 174 = .ok (.aload_n 0, 1) := by decide +kernel
theorem dX10_actInside_175 : decode cX10_actInside 175 = .ok (.iload_n 1, 1) := by decide +kernel
theorem dX10_actInside_176 : decode cX10_actInside 176 = .ok (.iconst 3, 1) := by decide +kernel
theorem dX10_actInside_177 : decode cX10_actInside 177 = .ok (.bipush 21, 2) := by decide +kernel
theorem dX10_actInside_179 : decode cX10_actInside 179 = .ok (.iconst 1, 1) := by decide +kernel
theorem dX10_actInside_180 : decode cX10_actInside 180 = .ok (.invokevirtual 170, 3) := by decide +kernel
theorem dX10_actInside_183 : decode cX10_actInside 183 = .ok (.l2i, 1) := by decide +kernel
theorem dX10_actInside_184 : decode cX10_actInside 184 = .ok (.putfield 85, 3) := by decide +kernel
theorem dX10_actInside_187 : decode cX10_actInside 187 = .ok (.goto 20, 3) := by decide +kernel
theorem dX10_actInside_190 : decode cX10_actInside 190 = .ok (.aload_n 0, 1) := by decide +kernel
theorem dX10_actInside_191 : decode cX10_actInside 191 = .ok (.bipush 45, 2) := by decide +kernel
theorem dX10_actInside_193 : decode cX10_actInside 193 = .ok (.iconst 1, 1) := by decide +kernel
theorem dX10_actInside_194 : decode cX10_actInside 194 = .ok (.iload_n 1, 1) := by decide +kernel
theorem dX10_actInside_195 : decode cX10_actInside 195 = .ok (.invokevirtual 239, 3) := by decide +kernel
theorem dX10_actInside_198 : decode cX10_actInside 198 = .ok (.ifCond .eq 9, 3) := by decide +kernel
theorem dX10_actInside_201 : decode cX10_actInside 201 = .ok (.aload_n 0, 1) := by decide +kernel
theorem dX10_actInside_202 : decode cX10_actInside 202 = .ok (.iconst 4, 1) := by decide +kernel
theorem dX10_actInside_203 : decode cX10_actInside 203 = .ok (.iconst 4, 1) := by decide +kernel
theorem dX10_actInside_204 : decode cX10_actInside 204 = .ok (.invokevirtual 325, 3) := by decide +kernel
theorem dX10_actInside_207 : decode cX10_actInside 207 = .ok (.iconst 1, 1) := by decide +kernel
theorem dX10_actInside_208 : decode cX10_actInside 208 = .ok (.ireturn, 1) := by decide +kernel
theorem dX10_actInside_209 : decode cX10_actInside 209 = .ok (.aload_n 0, 1) := by decide +kernel
theorem dX10_actInside_210 : decode cX10_actInside 210 = .ok (.getfield 73, 3) := by decide +kernel
theorem dX10_actInside_213 : decode cX10_actInside 213 = .ok (.ifCond .lt 5, 3) := by decide +kernel
theorem dX10_actInside_216 : decode cX10_actInside 216 = .ok (.iconst 0, 1) := by decide +kernel
theorem dX10_actInside_217 : decode cX10_actInside 217 = .ok (.ireturn, 1) := by decide +kernel
theorem dX10_actInside_218 : decode cX10_actInside 218 = .ok (.aload_n 0, 1) := by decide +kernel
theorem dX10_actInside_219 : decode cX10_actInside 219 = .ok (.bipush 46, 2) := by decide +kernel
theorem dX10_actInside_221 : decode cX10_actInside 221 = .ok (.iconst 0, 1) := by decide +kernel
theorem dX10_actInside_222 : decode cX10_actInside 222 = .ok (.iload_n 1, 1) := by decide +kernel
theorem dX10_actInside_223 : decode cX10_actInside 223 = .ok (.invokevirtual 239, 3) := by decide +kernel
theorem dX10_actInside_226 : decode cX10_actInside 226 = .ok (.ifCond .eq 14, 3) := by decide +kernel
theorem dX10_actInside_229 : decode cX10_actInside 229 = .ok (.aload_n 0, 1) := by decide +kernel
theorem dX10_actInside_230 : decode cX10_actInside 230 = .ok (.iconst 2, 1) := by decide +kernel
theorem dX10_actInside_231 : decode cX10_actInside 231 = .ok (.iconst 1, 1) := by decide +kernel
theorem dX10_actInside_232 : decode cX10_actInside 232 = .ok (.invokevirtual 325, 3) := by decide +kernel
theorem dX10_actInside_235 : decode cX10_actInside 235 = .ok (.aload_n 0, 1) := by decide +kernel
theorem dX10_actInside_236 : decode cX10_actInside 236 = .ok (.iconst (-1), 1) := by decide +kernel
theorem dX10_actInside_237 : decode cX10_actInside 237 = .ok (.putfield 94, 3) := by decide +kernel
theorem dX10_actInside_240 : decode cX10_actInside 240 = .ok (.iconst 1, 1) := by decide +kernel
theorem dX10_actInside_241 : decode cX10_actInside 241 = .ok (.ireturn, 1) := by decide +kernel
theorem dX10_actInside_242 : decode cX10_actInside 242 = .ok (.aload_n 0, 1) := by decide +kernel
theorem dX10_actInside_243 : decode cX10_actInside 243 = .ok (.iload_n 1, 1) := by decide +kernel
theorem dX10_actInside_244 : decode cX10_actInside 244 = .ok (.invokevirtual 334, 3) := by decide +kernel
theorem dX10_actInside_247 : decode cX10_actInside 247 = .ok (.ifCond .ne 11, 3) := by decide +kernel
theorem dX10_actInside_250 : decode cX10_actInside 250 = .ok (.aload_n 0, 1) := by decide +kernel
theorem dX10_actInside_251 : decode cX10_actInside 251 = .ok (.iload_n 1, 1) := by decide +kernel
theorem dX10_actInside_252 : decode cX10_actInside 252 = .ok (.invokevirtual 337, 3) := by decide +kernel
theorem dX10_actInside_255 : decode cX10_actInside 255 = .ok (.ifCond .eq 7, 3) := by decide +kernel
theorem dX10_actInside_258 : decode cX10_actInside 258 = .ok (.iconst 1, 1) := by decide +kernel
theorem dX10_actInside_259 : decode cX10_actInside 259 = .ok (.goto 4, 3) := by decide +kernel
theorem dX10_actInside_262 : decode cX10_actInside 262 = .ok (.iconst 0, 1) := by decide +kernel
theorem dX10_actInside_263 : decode cX10_actInside 263 = .ok (.ireturn, 1) := by decide +kernel
theorem dX10_sees_0 : decode cX10_sees 0 = .ok (.aload_n 0, 1) := by decide +kernel
theorem dX10_sees_1 : decode cX10_sees 1 = .ok (.getfield 73, 3) := by decide +kernel
theorem dX10_sees_4 : decode cX10_sees 4 = .ok (.ifCond .ge 5, 3) := by decide +kernel
theorem dX10_sees_7 : decode cX10_sees 7 = .ok (.iconst 0, 1) := by decide +kernel
theorem dX10_sees_8 : decode cX10_sees 8 = .ok (.ireturn, 1) := by decide +kernel
theorem dX10_sees_9 : decode cX10_sees 9 = .ok (.aload_n 0, 1) := by decide +kernel
theorem dX10_sees_10 : decode cX10_sees 10 = .ok (.bipush 42, 2) := by decide +kernel
theorem dX10_sees_12 : decode cX10_sees 12 = .ok (.iconst 0, 1) := by decide +kernel
theorem dX10_sees_13 : decode cX10_sees 13 = .ok (.aload_n 0, 1) := by decide +kernel
theorem dX10_sees_14 : decode cX10_sees 14 = .ok (.getfield 73, 3) := by decide +kernel
theorem dX10_sees_17 : decode cX10_sees 17 = .ok (.invokevirtual 239, 3) := by decide +kernel
theorem dX10_sees_20 : decode cX10_sees 20 = .ok (.ifCond .eq 17, 3) := by decide +kernel
theorem dX10_sees_23 : decode cX10_sees 23 = .ok (.aload_n 0, 1) := by decide +kernel
theorem dX10_sees_24 : decode cX10_sees 24 = .ok (.aload_n 0, 1) := by decide +kernel
theorem dX10_sees_25 : decode cX10_sees 25 = .ok (.getfield 73, 3) := by decide +kernel
theorem dX10_sees_28 : decode cX10_sees 28 = .ok (.putfield 94, 3) := by decide +kernel
theorem dX10_sees_31 : decode cX10_sees 31 = .ok (.aload_n 0, 1) := by decide +kernel
theorem dX10_sees_32 : decode cX10_sees 32 = .ok (.iconst 3, 1) := by decide +kernel
theorem dX10_sees_33 : decode cX10_sees 33 = .ok (.iconst 2, 1) := by decide +kernel
theorem dX10_sees_34 : decode cX10_sees 34 = .ok (.invokevirtual 325, 3) := by decide +kernel
theorem dX10_sees_37 : decode cX10_sees 37 = .ok (.iconst 1, 1) := by decide +kernel
theorem dX10_sees_38 : decode cX10_sees 38 = .ok (.ireturn, 1) := by decide +kernel
theorem dX10_isLost_0 : decode cX10_isLost 0 = .ok (.aload_n 0, 1) := by decide +kernel
theorem dX10_isLost_1 : decode cX10_isLost 1 = .ok (.getfield 73, 3) := by decide +kernel
theorem dX10_isLost_4 : decode cX10_isLost 4 = .ok (.aload_n 0, 1) := by decide +kernel
theorem dX10_isLost_5 : decode cX10_isLost 5 = .ok (.getfield 94, 3) := by decide +kernel
theorem dX10_isLost_8 : decode cX10_isLost 8 = .ok (.if_icmp .eq 32, 3) := by decide +kernel
theorem dX10_isLost_11 : decode cX10_isLost 11 = .ok (.aload_n 0, 1) := by decide +kernel
theorem dX10_isLost_12 : decode cX10_isLost 12 = .ok (.bipush 47, 2) := by decide +kernel
theorem dX10_isLost_14 : decode cX10_isLost 14 = .ok (.iconst 0, 1) := by decide +kernel
theorem dX10_isLost_15 : decode cX10_isLost 15 = .ok (.iload_n 1, 1) := by decide +kernel
theorem dX10_isLost_16 : decode cX10_isLost 16 = .ok (.invokevirtual 239, 3) := by decide +kernel
theorem dX10_isLost_19 : decode cX10_isLost 19 = .ok (.ifCond .eq 19, 3) := by decide +kernel
theorem dX10_isLost_22 : decode cX10_isLost 22 = .ok (.aload_n 0, 1) := by decide +kernel
theorem dX10_isLost_23 : decode cX10_isLost 23 = .ok (.iconst (-1), 1) := by decide +kernel
theorem dX10_isLost_24 : decode cX10_isLost 24 = .ok (.putfield 85, 3) := by decide +kernel
theorem dX10_isLost_27 : decode cX10_isLost 27 = .ok (.aload_n 0, 1) := by decide +kernel
theorem dX10_isLost_28 : decode cX10_isLost 28 = .ok (.iconst 2, 1) := by decide +kernel
theorem dX10_isLost_29 : decode cX10_isLost 29 = .ok (.iconst 1, 1) := by decide +kernel
theorem dX10_isLost_30 : decode cX10_isLost 30 = .ok (.invokevirtual 325, 3) := by decide +kernel
theorem dX10_isLost_33 : decode cX10_isLost 33 = .ok (.aload_n 0, 1) := by decide +kernel
theorem dX10_isLost_34 : decode cX10_isLost 34 = .ok (.iconst (-1), 1) := by decide +kernel
theorem dX10_isLost_35 : decode cX10_isLost 35 = .ok (.putfield 94, 3) := by decide +kernel
theorem dX10_isLost_38 : decode cX10_isLost 38 = .ok (.iconst 1, 1) := by decide +kernel
theorem dX10_isLost_39 : decode cX10_isLost 39 = .ok (.ireturn, 1) := by decide +kernel
theorem dX10_isLost_40 : decode cX10_isLost 40 = .ok (.aload_n 0, 1) := by decide +kernel
theorem dX10_isLost_41 : decode cX10_isLost 41 = .ok (.iload_n 1, 1) := by decide +kernel
theorem dX10_isLost_42 : decode cX10_isLost 42 = .ok (.invokevirtual 293, 3) := by decide +kernel
theorem dX10_isLost_45 : decode cX10_isLost 45 = .ok (.ifCond .eq 21, 3) := by decide +kernel
theorem dX10_isLost_48 : decode cX10_isLost 48 = .ok (.aload_n 0, 1) := by decide +kernel
theorem dX10_isLost_49 : decode cX10_isLost 49 = .ok (.iload_n 1, 1) := by decide +kernel
theorem dX10_isLost_50 : decode cX10_isLost 50 = .ok (.iconst 3, 1) := by decide +kernel
theorem dX10_isLost_51 : decode cX10_isLost 51 = .ok (.bipush 21, 2) := by decide +kernel
theorem dX10_isLost_53 : decode cX10_isLost 53 = .ok (.iconst 1, 1) := by decide +kernel
theorem dX10_isLost_54 : decode cX10_isLost 54 = .ok (.invokevirtual 170, 3) := by decide +kernel
theorem dX10_isLost_57 : decode cX10_isLost 57 = .ok (.aload_n 0, 1) := by decide +kernel
theorem dX10_isLost_58 : decode cX10_isLost 58 = .ok (.getfield 85, 3) := by decide +kernel
theorem dX10_isLost_61 : decode cX10_isLost 61 = .ok (.i2l, 1) := by decide +kernel
theorem dX10_isLost_62 : decode cX10_isLost 62 = .ok (.lcmp, 1) := by decide +kernel
theorem dX10_isLost_63 : decode cX10_isLost 63 = .ok (.ifCond .eq 27, 3) := by decide +kernel
theorem dX10_isLost_66 : decode cX10_isLost 66 = .ok (.aload_n 0, 1) := by decide +kernel
theorem dX10_isLost_67 : decode cX10_isLost 67 = .ok (.bipush 48, 2) := by decide +kernel
theorem dX10_isLost_69 : decode cX10_isLost 69 = .ok (.iconst 1, 1) := by decide +kernel
theorem dX10_isLost_70 : decode cX10_isLost 70 = .ok (.iload_n 1, 1) := by decide +kernel
theorem dX10_isLost_71 : decode cX10_isLost 71 = .ok (.invokevirtual 239, 3) := by decide +kernel
theorem dX10_isLost_74 : decode cX10_isLost 74 = .ok (.ifCond .eq 14, 3) := by decide +kernel
theorem dX10_isLost_77 : decode cX10_isLost 77 = .ok (.aload_n 0, 1) := by decide +kernel
theorem dX10_isLost_78 : decode cX10_isLost 78 = .ok (.iconst (-1), 1) := by decide +kernel
theorem dX10_isLost_79 : decode cX10_isLost 79 = .ok (.putfield 85, 3) := by decide +kernel
theorem dX10_isLost_82 : decode cX10_isLost 82 = .ok (.aload_n 0, 1) := by decide +kernel
theorem dX10_isLost_83 : decode cX10_isLost 83 = .ok (.iconst 4, 1) := by decide +kernel
theorem dX10_isLost_84 : decode cX10_isLost 84 = .ok (.iconst 4, 1) := by decide +kernel
theorem dX10_isLost_85 : decode cX10_isLost 85 = .ok (.invokevirtual 325, 3) := by decide +kernel
theorem dX10_isLost_88 : decode cX10_isLost 88 = .ok (.iconst 1, 1) := by decide +kernel
theorem dX10_isLost_89 : decode cX10_isLost 89 = .ok (.ireturn, 1) := by decide +kernel
theorem dX10_isLost_90 : decode cX10_isLost 90 = .ok (.iconst 0, 1) := by decide +kernel
theorem dX10_isLost_91 : decode cX10_isLost 91 = .ok (.ireturn, 1) := by decide +kernel
theorem dX10_asks_0 : decode cX10_asks 0 = .ok (.aload_n 0, 1) := by decide +kernel
theorem dX10_asks_1 : decode cX10_asks 1 = .ok (.iload_n 1, 1) := by decide +kernel
theorem dX10_asks_2 : decode cX10_asks 2 = .ok (.invokevirtual 334, 3) := by decide +kernel
theorem dX10_asks_5 : decode cX10_asks 5 = .ok (.ifCond .eq 5, 3) := by decide +kernel
theorem dX10_asks_8 : decode cX10_asks 8 = .ok (.iconst 1, 1) := by decide +kernel
theorem dX10_asks_9 : decode cX10_asks 9 = .ok (.ireturn, 1) := by decide +kernel
theorem dX10_asks_10 : decode cX10_asks 10 = .ok (.aload_n 0, 1) := by decide +kernel
theorem dX10_asks_11 : decode cX10_asks 11 = .ok (.getfield 196, 3) := by decide +kernel
theorem dX10_asks_14 : decode cX10_asks 14 = .ok (.ifCond .ne 5, 3) := by decide +kernel
theorem dX10_asks_17 : decode cX10_asks 17 = .ok (.iconst 0, 1) := by decide +kernel
theorem dX10_asks_18 : decode cX10_asks 18 = .ok (.ireturn, 1) := by decide +kernel
theorem dX10_asks_19 : decode cX10_asks 19 = .ok (.aload_n 0, 1) := by decide +kernel
theorem dX10_asks_20 : decode cX10_asks 20 = .ok (.getfield 196, 3) := by decide +kernel
theorem dX10_asks_23 : decode cX10_asks 23 = .ok (.iconst 1, 1) := by decide +kernel
theorem dX10_asks_24 : decode cX10_asks 24 = .ok (.if_icmp .ne 7, 3) := by decide +kernel
theorem dX10_asks_27 : decode cX10_asks 27 = .ok (.iconst 2, 1) := by decide +kernel
theorem dX10_asks_28 : decode cX10_asks 28 = .ok (.goto 16, 3) := by decide +kernel
theorem dX10_asks_31 : decode cX10_asks 31 = .ok (.aload_n 0, 1) := by decide +kernel
theorem dX10_asks_32 : decode cX10_asks 32 = .ok (.getfield 196, 3) := by decide +kernel
theorem dX10_asks_35 : decode cX10_asks 35 = .ok (.iconst 3, 1) := by decide +kernel
theorem dX10_asks_36 : decode cX10_asks 36 = .ok (.if_icmp .ne 7, 3) := by decide +kernel
theorem dX10_asks_39 : decode cX10_asks 39 = .ok (.iconst 1, 1) := by decide +kernel
theorem dX10_asks_40 : decode cX10_asks 40 = .ok (.goto 4, 3) := by decide +kernel
theorem dX10_asks_43 : decode cX10_asks 43 = .ok (.iconst 3, 1) := by decide +kernel
theorem dX10_asks_44 : decode cX10_asks 44 = .ok (.istore_n 2, 1) := by decide +kernel
theorem dX10_asks_45 : decode cX10_asks 45 = .ok (.aload_n 0, 1) := by decide +kernel
theorem dX10_asks_46 : decode cX10_asks 46 = .ok (.getfield 85, 3) := by decide +kernel
theorem dX10_asks_49 : decode cX10_asks 49 = .ok (.iload_n 2, 1) := by decide +kernel
theorem dX10_asks_50 : decode cX10_asks 50 = .ok (.if_icmp .ne 42, 3) := by decide +kernel
theorem dX10_asks_53 : decode cX10_asks 53 = .ok (.aload_n 0, 1) := by decide +kernel
theorem dX10_asks_54 : decode cX10_asks 54 = .ok (.bipush 50, 2) := by decide +kernel
theorem dX10_asks_56 : decode cX10_asks 56 = .ok (.aload_n 0, 1) := by decide +kernel
theorem dX10_asks_57 : decode cX10_asks 57 = .ok (.getfield 196, 3) := by decide +kernel
theorem dX10_asks_60 : decode cX10_asks 60 = .ok (.iadd, 1) := by decide +kernel
theorem dX10_asks_61 : decode cX10_asks 61 = .ok (.iconst 0, 1) := by decide +kernel
theorem dX10_asks_62 : decode cX10_asks 62 = .ok (.iload_n 1, 1) := by decide +kernel
theorem dX10_asks_63 : decode cX10_asks 63 = .ok (.invokevirtual 239, 3) := by decide +kernel
theorem dX10_asks_66 : decode cX10_asks 66 = .ok (.ifCond .eq 47, 3) := by decide +kernel
theorem dX10_asks_69 : decode cX10_asks 69 = .ok (.aload_n 0, 1) := by decide +kernel
theorem dX10_asks_70 : decode cX10_asks 70 = .ok (.aload_n 0, 1) := by decide +kernel
theorem dX10_asks_71 : decode cX10_asks 71 = .ok (.getfield 196, 3) := by decide +kernel
theorem dX10_asks_74 : decode cX10_asks 74 = .ok (.putfield 274, 3) := by decide +kernel
theorem dX10_asks_77 : decode cX10_asks 77 = .ok (.aload_n 0, 1) := by decide +kernel
theorem dX10_asks_78 : decode cX10_asks 78 = .ok (.iconst 0, 1) := by decide +kernel
theorem dX10_asks_79 : decode cX10_asks 79 = .ok (.putfield 196, 3) := by decide +kernel
theorem dX10_asks_82 : decode cX10_asks 82 = .ok (.aload_n 0, 1) := by decide +kernel
theorem dX10_asks_83 : decode cX10_asks 83 = .ok (.iconst 5, 1) := by decide +kernel
theorem dX10_asks_84 : decode cX10_asks 84 = .ok (.bipush 6, 2) := by decide +kernel
theorem dX10_asks_86 : decode cX10_asks 86 = .ok (.invokevirtual 325, 3) := by decide +kernel
theorem dX10_asks_89 : decode cX10_asks 89 = .ok (.goto 24, 3) := by decide +kernel
theorem dX10_asks_92 : decode cX10_asks 92 = .ok (.aload_n 0, 1) := by decide +kernel
theorem dX10_asks_93 : decode cX10_asks 93 = .ok (.bipush 55, 2) := by decide +kernel
theorem dX10_asks_95 : decode cX10_asks 95 = .ok (.iconst 1, 1) := by decide +kernel
theorem dX10_asks_96 : decode cX10_asks 96 = .ok (.iload_n 1, 1) := by decide +kernel
theorem dX10_asks_97 : decode cX10_asks 97 = .ok (.invokevirtual 239, 3) := by decide +kernel
theorem dX10_asks_100 : decode cX10_asks 100 = .ok (.ifCond .eq 13, 3) := by decide +kernel
theorem dX10_asks_103 : decode cX10_asks 103 = .ok (.aload_n 0, 1) := by decide +kernel
theorem dX10_asks_104 : decode cX10_asks 104 = .ok (.iconst 0, 1) := by decide +kernel
theorem dX10_asks_105 : decode cX10_asks 105 = .ok (.putfield 196, 3) := by decide +kernel
theorem dX10_asks_108 : decode cX10_asks 108 = .ok (.aload_n 0, 1) := by decide +kernel
theorem dX10_asks_109 : decode cX10_asks 109 = .ok (.iconst 3, 1) := by decide +kernel
theorem dX10_asks_110 : decode cX10_asks 110 = .ok (.putfield 82, 3) := by decide +kernel
theorem dX10_asks_113 : decode cX10_asks 113 = .ok (.iconst 1, 1) := by decide +kernel
theorem dX10_asks_114 : decode cX10_asks 114 = .ok (.ireturn, 1) := by decide +kernel
theorem dX10_works_0 : decode cX10_works 0 = .ok (.aload_n 0, 1) := by decide +kernel
theorem dX10_works_1 : decode cX10_works 1 = .ok (.getfield 274, 3) := by decide +kernel
theorem dX10_works_4 : decode cX10_works 4 = .ok (.iconst 1, 1) := by decide +kernel
theorem dX10_works_5 : decode cX10_works 5 = .ok (.if_icmp .ne 19, 3) := by decide +kernel
theorem dX10_works_8 : decode cX10_works 8 = .ok (.aload_n 0, 1) := by decide +kernel
theorem dX10_works_9 : decode cX10_works 9 = .ok (.getfield 227, 3) := by decide +kernel
theorem dX10_works_12 : decode cX10_works 12 = .ok (.bipush 6, 2) := by decide +kernel
theorem dX10_works_14 : decode cX10_works 14 = .ok (.if_icmp .ne 10, 3) := by decide +kernel
theorem dX10_works_17 : decode cX10_works 17 = .ok (.aload_n 0, 1) := by decide +kernel
theorem dX10_works_18 : decode cX10_works 18 = .ok (.iload_n 1, 1) := by decide +kernel
theorem dX10_works_19 : decode cX10_works 19 = .ok (.invokevirtual 340, 3) := by decide +kernel
theorem dX10_works_22 : decode cX10_works 22 = .ok (.iconst 1, 1) := by decide +kernel
theorem dX10_works_23 : decode cX10_works 23 = .ok (.ireturn, 1) := by decide +kernel
theorem dX10_works_24 : decode cX10_works 24 = .ok (.aload_n 0, 1) := by decide +kernel
theorem dX10_works_25 : decode cX10_works 25 = .ok (.getfield 274, 3) := by decide +kernel
theorem dX10_works_28 : decode cX10_works 28 = .ok (.iconst 2, 1) := by decide +kernel
theorem dX10_works_29 : decode cX10_works 29 = .ok (.if_icmp .gt 33, 3) := by decide +kernel
theorem dX10_works_32 : decode cX10_works 32 = .ok (.aload_n 0, 1) := by decide +kernel
theorem dX10_works_33 : decode cX10_works 33 = .ok (.getfield 79, 3) := by decide +kernel
theorem dX10_works_36 : decode cX10_works 36 = .ok (.ifCond .ge 26, 3) := by decide +kernel
theorem dX10_works_39 : decode cX10_works 39 = .ok (.aload_n 0, 1) := by decide +kernel
theorem dX10_works_40 : decode cX10_works 40 = .ok (.getfield 82, 3) := by decide +kernel
theorem dX10_works_43 : decode cX10_works 43 = .ok (.bipush 7, 2) := by decide +kernel
theorem dX10_works_45 : decode cX10_works 45 = .ok (.if_icmp .eq 7, 3) := by decide +kernel
theorem dX10_works_48 : decode cX10_works 48 = .ok (.iconst 1, 1) := by decide +kernel
theorem dX10_works_49 : decode cX10_works 49 = .ok (.goto 4, 3) := by decide +kernel
theorem dX10_works_52 : decode cX10_works 52 = .ok (.iconst 0, 1) := by decide +kernel
theorem dX10_works_53 : decode cX10_works 53 = .ok (.istore_n 2, 1) := by decide +kernel
theorem dX10_works_54 : decode cX10_works 54 = .ok (.aload_n 0, 1) := by decide +kernel
theorem dX10_works_55 : decode cX10_works 55 = .ok (.bipush 7, 2) := by decide +kernel
theorem dX10_works_57 : decode cX10_works 57 = .ok (.putfield 82, 3) := by decide +kernel
theorem dX10_works_60 : decode cX10_works 60 = .ok (.iload_n 2, 1) := by decide +kernel
theorem dX10_works_61 : decode cX10_works 61 = .ok (.ireturn, 1) := by decide +kernel
theorem dX10_works_62 : decode cX10_works 62 = .ok (.aload_n 0, 1) := by decide +kernel
theorem dX10_works_63 : decode cX10_works 63 = .ok (.getfield 274, 3) := by decide +kernel
theorem dX10_works_66 : decode cX10_works 66 = .ok (.tableswitch 128 1 3 #[26, 34, 93], 26) := by decide +kernel
theorem dX10_works_92 : decode cX10_works 92 = .ok (.aload_n 0, 1) := by decide +kernel
theorem dX10_works_93 : decode cX10_works 93 = .ok (.iload_n 1, 1) := by decide +kernel
theorem dX10_works_94 : decode cX10_works 94 = .ok (.invokevirtual 343, 3) := by decide +kernel
theorem dX10_works_97 : decode cX10_works 97 = .ok (.goto 102, 3) := by decide +kernel
theorem dX10_works_100 : decode cX10_works 100 = .ok (.aload_n 0, 1) := by decide +kernel
theorem dX10_works_101 : decode cX10_works 101 = .ok (.invokevirtual 346, 3) := by decide +kernel
theorem dX10_works_104 : decode cX10_works 104 = .ok (.istore_n 2, 1) := by decide +kernel
theorem dX10_works_105 : decode cX10_works 105 = .ok (.aload_n 0, 1) := by decide +kernel
theorem dX10_works_106 : decode cX10_works 106 = .ok (.iload_n 2, 1) := by decide +kernel
theorem dX10_works_107 : decode cX10_works 107 = .ok (.ifCond .eq 8, 3) := by decide +kernel
theorem dX10_works_110 : decode cX10_works 110 = .ok (.bipush 59, 2) := by decide +kernel
theorem dX10_works_112 : decode cX10_works 112 = .ok (.goto 5, 3) := by decide +kernel
theorem dX10_works_115 : decode cX10_works 115 = .ok (.bipush 60, 2) := by decide +kernel
theorem dX10_works_117 : decode cX10_works 117 = .ok (.iload_n 2, 1) := by decide +kernel
theorem dX10_works_118 : decode cX10_works 118 = .ok (.ifCond .eq 7, 3) := by decide +kernel
theorem dX10_works_121 : decode cX10_works 121 = .ok (.iconst 0, 1) := by decide +kernel
theorem dX10_works_122 : decode cX10_works 122 = .ok (.goto 4, 3) := by decide +kernel
theorem dX10_works_125 : decode cX10_works 125 = .ok (.iconst 1, 1) := by decide +kernel
theorem dX10_works_126 : decode cX10_works 126 = .ok (.iload_n 1, 1) := by decide +kernel
theorem dX10_works_127 : decode cX10_works 127 = .ok (.invokevirtual 239, 3) := by decide +kernel
theorem dX10_works_130 : decode cX10_works 130 = .ok (.ifCond .eq 69, 3) := by decide +kernel
theorem dX10_works_133 : decode cX10_works 133 = .ok (.iload_n 2, 1) := by decide +kernel
theorem dX10_works_134 : decode cX10_works 134 = .ok (.ifCond .eq 7, 3) := by decide +kernel
theorem dX10_works_137 : decode cX10_works 137 = .ok (.aload_n 0, 1) := by decide +kernel
theorem dX10_works_138 : decode cX10_works 138 = .ok (.invokevirtual 349, 3) := by decide +kernel
theorem dX10_works_141 : decode cX10_works 141 = .ok (.aload_n 0, 1) := by decide +kernel
theorem dX10_works_142 : decode cX10_works 142 = .ok (.iconst 2, 1) := by decide +kernel
theorem dX10_works_143 : decode cX10_works 143 = .ok (.iload_n 2, 1) := by decide +kernel
theorem dX10_works_144 : decode cX10_works 144 = .ok (.ifCond .eq 7, 3) := by decide +kernel
theorem dX10_works_147 : decode cX10_works 147 = .ok (.iconst 5, 1) := by decide +kernel
theorem dX10_works_148 : decode cX10_works 148 = .ok (.goto 5, 3) := by decide +kernel
theorem dX10_works_151 : decode cX10_works 151 = .ok (.bipush 10, 2) := by decide +kernel
theorem dX10_works_153 : decode cX10_works 153 = .ok (.invokevirtual 325, 3) := by decide +kernel
theorem dX10_works_156 : decode cX10_works 156 = .ok (.goto 43, 3) := by decide +kernel
theorem dX10_works_159 : decode cX10_works 159 = .ok (.aload_n 0, 1) := by decide +kernel
theorem dX10_works_160 : decode cX10_works 160 = .ok (.bipush 61, 2) := by decide +kernel
theorem dX10_works_162 : decode cX10_works 162 = .ok (.iconst 0, 1) := by decide +kernel
theorem dX10_works_163 : decode cX10_works 163 = .ok (.iload_n 1, 1) := by decide +kernel
theorem dX10_works_164 : decode cX10_works 164 = .ok (.invokevirtual 239, 3) := by decide +kernel
theorem dX10_works_167 : decode cX10_works 167 = .ok (.ifCond .eq 32, 3) := by decide +kernel
theorem dX10_works_170 : decode cX10_works 170 = .ok (.aload_n 0, 1) := by decide +kernel
theorem dX10_works_171 : decode cX10_works 171 = .ok (.bipush 22, 2) := by decide +kernel
theorem dX10_works_173 : decode cX10_works 173 = .ok (.iconst 0, 1) := by decide +kernel
theorem dX10_works_174 : decode cX10_works 174 = .ok (.iload_n 1, 1) := by decide +kernel
theorem dX10_works_175 : decode cX10_works 175 = .ok (.invokevirtual 239, 3) := by decide +kernel
theorem dX10_works_178 : decode cX10_works 178 = .ok (.ifCond .eq 21, 3) := by decide +kernel
theorem dX10_works_181 : decode cX10_works 181 = .ok (.aload_n 0, 1) := by decide +kernel
theorem dX10_works_182 : decode cX10_works 182 = .ok (.invokevirtual 319, 3) := by decide +kernel
theorem dX10_works_185 : decode cX10_works 185 = .ok (.aload_n 0, 1) := by decide +kernel
theorem dX10_works_186 : decode cX10_works 186 = .ok (.iconst 2, 1) := by decide +kernel
theorem dX10_works_187 : decode cX10_works 187 = .ok (.iconst 5, 1) := by decide +kernel
theorem dX10_works_188 : decode cX10_works 188 = .ok (.invokevirtual 325, 3) := by decide +kernel
theorem dX10_works_191 : decode cX10_works 191 = .ok (.goto 8, 3) := by decide +kernel
theorem dX10_works_194 : decode cX10_works 194 = .ok (.aload_n 0, 1) := by decide +kernel
theorem dX10_works_195 : decode cX10_works 195 = .ok (.iload_n 1, 1) := by decide +kernel
theorem dX10_works_196 : decode cX10_works 196 = .ok (.invokevirtual 352, 3) := by decide +kernel
theorem dX10_works_199 : decode cX10_works 199 = .ok (.iconst 1, 1) := by decide +kernel
theorem dX10_works_200 : decode cX10_works 200 = .ok (.ireturn, 1) := by decide +kernel
theorem dX10_archives_0 : decode cX10_archives 0 = .ok (.aload_n 0, 1) := by decide +kernel
theorem dX10_archives_1 : decode cX10_archives 1 = .ok (.bipush 56, 2) := by decide +kernel
theorem dX10_archives_3 : decode cX10_archives 3 = .ok (.iconst 0, 1) := by decide +kernel
theorem dX10_archives_4 : decode cX10_archives 4 = .ok (.iload_n 1, 1) := by decide +kernel
theorem dX10_archives_5 : decode cX10_archives 5 = .ok (.invokevirtual 239, 3) := by decide +kernel
theorem dX10_archives_8 : decode cX10_archives 8 = .ok (.ifCond .ne 4, 3) := by decide +kernel
theorem dX10_archives_11 : decode cX10_archives 11 = .ok (.return_, 1) := by decide +kernel
theorem dX10_archives_12 : decode cX10_archives 12 = .ok (.aload_n 0, 1) := by decide +kernel
theorem dX10_archives_13 : decode cX10_archives 13 = .ok (.aload_n 0, 1) := by decide +kernel
theorem dX10_archives_14 : decode cX10_archives 14 = .ok (.getfield 202, 3) := by decide +kernel
theorem dX10_archives_17 : decode cX10_archives 17 = .ok (.bipush 24, 2) := by decide +kernel
theorem dX10_archives_19 : decode cX10_archives 19 = .ok (.if_icmp .ge 10, 3) := by decide +kernel
theorem dX10_archives_22 : decode cX10_archives 22 = .ok (.aload_n 0, 1) := by decide +kernel
theorem dX10_archives_23 : decode cX10_archives 23 = .ok (.getfield 202, 3) := by decide +kernel
theorem dX10_archives_26 : decode cX10_archives 26 = .ok (.goto 5, 3) := by decide +kernel
theorem dX10_archives_29 : decode cX10_archives 29 = .ok (.bipush 24, 2) := by decide +kernel
theorem dX10_archives_31 : decode cX10_archives 31 = .ok (.putfield 355, 3) := by decide +kernel
theorem dX10_archives_34 : decode cX10_archives 34 = .ok (.aload_n 0, 1) := by decide +kernel
theorem dX10_archives_35 : decode cX10_archives 35 = .ok (.iconst 1, 1) := by decide +kernel
theorem dX10_archives_36 : decode cX10_archives 36 = .ok (.bipush 16, 2) := by decide +kernel
theorem dX10_archives_38 : decode cX10_archives 38 = .ok (.aload_n 0, 1) := by decide +kernel
theorem dX10_archives_39 : decode cX10_archives 39 = .ok (.getfield 355, 3) := by decide +kernel
theorem dX10_archives_42 : decode cX10_archives 42 = .ok (.imul, 1) := by decide +kernel
theorem dX10_archives_43 : decode cX10_archives 43 = .ok (.iadd, 1) := by decide +kernel
theorem dX10_archives_44 : decode cX10_archives 44 = .ok (.putfield 358, 3) := by decide +kernel
theorem dX10_archives_47 : decode cX10_archives 47 = .ok (.aload_n 0, 1) := by decide +kernel
theorem dX10_archives_48 : decode cX10_archives 48 = .ok (.getfield 66, 3) := by decide +kernel
theorem dX10_archives_51 : decode cX10_archives 51 = .ok (.iconst 0, 1) := by decide +kernel
theorem dX10_archives_52 : decode cX10_archives 52 = .ok (.bipush 82, 2) := by decide +kernel
theorem dX10_archives_54 : decode cX10_archives 54 = .ok (.bastore, 1) := by decide +kernel
theorem dX10_archives_55 : decode cX10_archives 55 = .ok (.iconst 0, 1) := by decide +kernel
theorem dX10_archives_56 : decode cX10_archives 56 = .ok (.istore_n 2, 1) := by decide +kernel
theorem dX10_archives_57 : decode cX10_archives 57 = .ok (.iload_n 2, 1) := by decide +kernel
theorem dX10_archives_58 : decode cX10_archives 58 = .ok (.bipush 16, 2) := by decide +kernel
theorem dX10_archives_60 : decode cX10_archives 60 = .ok (.aload_n 0, 1) := by decide +kernel
theorem dX10_archives_61 : decode cX10_archives 61 = .ok (.getfield 355, 3) := by decide +kernel
theorem dX10_archives_64 : decode cX10_archives 64 = .ok (.imul, 1) := by decide +kernel
theorem dX10_archives_65 : decode cX10_archives 65 = .ok (.if_icmp .ge 23, 3) := by decide +kernel
theorem dX10_archives_68 : decode cX10_archives 68 = .ok (.aload_n 0, 1) := by decide +kernel
theorem dX10_archives_69 : decode cX10_archives 69 = .ok (.getfield 66, 3) := by decide +kernel
theorem dX10_archives_72 : decode cX10_archives 72 = .ok (.iconst 1, 1) := by decide +kernel
theorem dX10_archives_73 : decode cX10_archives 73 = .ok (.iload_n 2, 1) := by decide +kernel
theorem dX10_archives_74 : decode cX10_archives 74 = .ok (.iadd, 1) := by decide +kernel
theorem dX10_archives_75 : decode cX10_archives 75 = .ok (.aload_n 0, 1) := by decide +kernel
theorem dX10_archives_76 : decode cX10_archives 76 = .ok (.getfield 60, 3) := by decide +kernel
theorem dX10_archives_79 : decode cX10_archives 79 = .ok (.iload_n 2, 1) := by decide +kernel
theorem dX10_archives_80 : decode cX10_archives 80 = .ok (.baload, 1) := by decide +kernel
theorem dX10_archives_81 : decode cX10_archives 81 = .ok (.bastore, 1) := by decide +kernel
theorem dX10_archives_82 : decode cX10_archives 82 = .ok (.iinc 2 1, 3) := by decide +kernel
theorem dX10_archives_85 : decode cX10_archives 85 = .ok (.goto (-28), 3) := by decide +kernel
theorem dX10_archives_88 : decode cX10_archives 88 = .ok (.iconst 0, 1) := by decide +kernel
theorem dX10_archives_89 : decode cX10_archives 89 = .ok (.istore_n 2, 1) := by decide +kernel
theorem dX10_archives_90 : decode cX10_archives 90 = .ok (.iload_n 2, 1) := by decide +kernel
theorem dX10_archives_91 : decode cX10_archives 91 = .ok (.aload_n 0, 1) := by decide +kernel
theorem dX10_archives_92 : decode cX10_archives 92 = .ok (.getfield 358, 3) := by decide +kernel
theorem dX10_archives_95 : decode cX10_archives 95 = .ok (.if_icmp .ge 21, 3) := by decide +kernel
theorem dX10_archives_98 : decode cX10_archives 98 = .ok (.aload_n 0, 1) := by decide +kernel
theorem dX10_archives_99 : decode cX10_archives 99 = .ok (.getfield 57, 3) := by decide +kernel
theorem dX10_archives_102 : decode cX10_archives 102 = .ok (.iload_n 2, 1) := by decide +kernel
theorem dX10_archives_103 : decode cX10_archives 103 = .ok (.aload_n 0, 1) := by decide +kernel
theorem dX10_archives_104 : decode cX10_archives 104 = .ok (.getfield 66, 3) := by decide +kernel
theorem dX10_archives_107 : decode cX10_archives 107 = .ok (.iload_n 2, 1) := by decide +kernel
theorem dX10_archives_108 : decode cX10_archives 108 = .ok (.baload, 1) := by decide +kernel
theorem dX10_archives_109 : decode cX10_archives 109 = .ok (.bastore, 1) := by decide +kernel
theorem dX10_archives_110 : decode cX10_archives 110 = .ok (.iinc 2 1, 3) := by decide +kernel
theorem dX10_archives_113 : decode cX10_archives 113 = .ok (.goto (-23), 3) := by decide +kernel
theorem dX10_archives_116 : decode cX10_archives 116 = .ok (.aload_n 0, 1) := by decide +kernel
theorem dX10_archives_117 : decode cX10_archives 117 = .ok (.aload_n 0, 1) := by decide +kernel
theorem dX10_archives_118 : decode cX10_archives 118 = .ok (.getfield 358, 3) := by decide +kernel
theorem dX10_archives_121 : decode cX10_archives 121 = .ok (.putfield 79, 3) := by decide +kernel
theorem dX10_archives_124 : decode cX10_archives 124 = .ok (.aload_n 0, 1) := by decide +kernel
theorem dX10_archives_125 : decode cX10_archives 125 = .ok (.bipush 6, 2) := by decide +kernel
theorem dX10_archives_127 : decode cX10_archives 127 = .ok (.bipush 6, 2) := by decide +kernel
theorem dX10_archives_129 : decode cX10_archives 129 = .ok (.invokevirtual 325, 3) := by decide +kernel
theorem dX10_archives_132 : decode cX10_archives 132 = .ok (.return_, 1) := by decide +kernel
theorem dX10_numberOf_0 : decode cX10_numberOf 0 = .ok (.aload_n 0, 1) := by decide +kernel
theorem dX10_numberOf_1 : decode cX10_numberOf 1 = .ok (.getfield 60, 3) := by decide +kernel
theorem dX10_numberOf_4 : decode cX10_numberOf 4 = .ok (.bipush 16, 2) := by decide +kernel
theorem dX10_numberOf_6 : decode cX10_numberOf 6 = .ok (.iload_n 1, 1) := by decide +kernel
theorem dX10_numberOf_7 : decode cX10_numberOf 7 = .ok (.imul, 1) := by decide +kernel
theorem dX10_numberOf_8 : decode cX10_numberOf 8 = .ok (.baload, 1) := by decide +kernel
theorem dX10_numberOf_9 : decode cX10_numberOf 9 = .ok (.i2l, 1) := by decide +kernel
theorem dX10_numberOf_10 : decode cX10_numberOf 10 = .ok (.ldc2_w 161, 3) := by decide +kernel
theorem dX10_numberOf_13 : decode cX10_numberOf 13 = .ok (.land, 1) := by decide +kernel
theorem dX10_numberOf_14 : decode cX10_numberOf 14 = .ok (.bipush 24, 2) := by decide +kernel
theorem dX10_numberOf_16 : decode cX10_numberOf 16 = .ok (.lshl, 1) := by decide +kernel
theorem dX10_numberOf_17 : decode cX10_numberOf 17 = .ok (.aload_n 0, 1) := by decide +kernel
theorem dX10_numberOf_18 : decode cX10_numberOf 18 = .ok (.getfield 60, 3) := by decide +kernel
theorem dX10_numberOf_21 : decode cX10_numberOf 21 = .ok (.bipush 16, 2) := by decide +kernel
theorem dX10_numberOf_23 : decode cX10_numberOf 23 = .ok (.iload_n 1, 1) := by decide +kernel
theorem dX10_numberOf_24 : decode cX10_numberOf 24 = .ok (.imul, 1) := by decide +kernel
theorem dX10_numberOf_25 : decode cX10_numberOf 25 = .ok (.iconst 1, 1) := by decide +kernel
theorem dX10_numberOf_26 : decode cX10_numberOf 26 = .ok (.iadd, 1) := by decide +kernel
theorem dX10_numberOf_27 : decode cX10_numberOf 27 = .ok (.baload, 1) := by decide +kernel
theorem dX10_numberOf_28 : decode cX10_numberOf 28 = .ok (.sipush 255, 3) := by decide +kernel
theorem dX10_numberOf_31 : decode cX10_numberOf 31 = .ok (.iand, 1) := by decide +kernel
theorem dX10_numberOf_32 : decode cX10_numberOf 32 = .ok (.bipush 16, 2) := by decide +kernel
theorem dX10_numberOf_34 : decode cX10_numberOf 34 = .ok (.ishl, 1) := by decide +kernel
theorem dX10_numberOf_35 : decode cX10_numberOf 35 = .ok (.i2l, 1) := by decide +kernel
theorem dX10_numberOf_36 : decode cX10_numberOf 36 = .ok (.lor, 1) := by decide +kernel
theorem dX10_numberOf_37 : decode cX10_numberOf 37 = .ok (.aload_n 0, 1) := by decide +kernel
theorem dX10_numberOf_38 : decode cX10_numberOf 38 = .ok (.getfield 60, 3) := by decide +kernel
theorem dX10_numberOf_41 : decode cX10_numberOf 41 = .ok (.bipush 16, 2) := by decide +kernel
theorem dX10_numberOf_43 : decode cX10_numberOf 43 = .ok (.iload_n 1, 1) := by decide +kernel
theorem dX10_numberOf_44 : decode cX10_numberOf 44 = .ok (.imul, 1) := by decide +kernel
theorem dX10_numberOf_45 : decode cX10_numberOf 45 = .ok (.iconst 2, 1) := by decide +kernel
theorem dX10_numberOf_46 : decode cX10_numberOf 46 = .ok (.iadd, 1) := by decide +kernel
theorem dX10_numberOf_47 : decode cX10_numberOf 47 = .ok (.baload, 1) := by decide +kernel
theorem dX10_numberOf_48 : decode cX10_numberOf 48 = .ok (.sipush 255, 3) := by decide +kernel
theorem dX10_numberOf_51 : decode cX10_numberOf 51 = .ok (.iand, 1) := by decide +kernel
theorem dX10_numberOf_52 : decode cX10_numberOf 52 = .ok (.bipush 8, 2) := by decide +kernel
theorem dX10_numberOf_54 : decode cX10_numberOf 54 = .ok (.ishl, 1) := by decide +kernel
theorem dX10_numberOf_55 : decode cX10_numberOf 55 = .ok (.i2l, 1) := by decide +kernel
theorem dX10_numberOf_56 : decode cX10_numberOf 56 = .ok (.lor, 1) := by decide +kernel
theorem dX10_numberOf_57 : decode cX10_numberOf 57 = .ok (.aload_n 0, 1) := by decide +kernel
theorem dX10_numberOf_58 : decode cX10_numberOf 58 = .ok (.getfield 60, 3) := by decide +kernel
theorem dX10_numberOf_61 : decode cX10_numberOf 61 = .ok (.bipush 16, 2) := by decide +kernel
theorem dX10_numberOf_63 : decode cX10_numberOf 63 = .ok (.iload_n 1, 1) := by decide +kernel
theorem dX10_numberOf_64 : decode cX10_numberOf 64 = .ok (.imul, 1) := by decide +kernel
theorem dX10_numberOf_65 : decode cX10_numberOf 65 = .ok (.iconst 3, 1) := by decide +kernel
theorem dX10_numberOf_66 : decode cX10_numberOf 66 = .ok (.iadd, 1) := by decide +kernel
theorem dX10_numberOf_67 : decode cX10_numberOf 67 = .ok (.baload, 1) := by decide +kernel
theorem dX10_numberOf_68 : decode cX10_numberOf 68 = .ok (.sipush 255, 3) := by decide +kernel
theorem dX10_numberOf_71 : decode cX10_numberOf 71 = .ok (.iand, 1) := by decide +kernel
theorem dX10_numberOf_72 : decode cX10_numberOf 72 = .ok (.i2l, 1) := by decide +kernel
theorem dX10_numberOf_73 : decode cX10_numberOf 73 = .ok (.lor, 1) := by decide +kernel
theorem dX10_numberOf_74 : decode cX10_numberOf 74 = .ok (.lreturn, 1) := by decide +kernel
theorem dX10_ends_0 : decode cX10_ends 0 = .ok (.aload_n 0, 1) := by decide +kernel
theorem dX10_ends_1 : decode cX10_ends 1 = .ok (.getfield 79, 3) := by decide +kernel
theorem dX10_ends_4 : decode cX10_ends 4 = .ok (.aload_n 0, 1) := by decide +kernel
theorem dX10_ends_5 : decode cX10_ends 5 = .ok (.getfield 358, 3) := by decide +kernel
theorem dX10_ends_8 : decode cX10_ends 8 = .ok (.if_icmp .ne 18, 3) := by decide +kernel
theorem dX10_ends_11 : decode cX10_ends 11 = .ok (.aload_n 0, 1) := by decide +kernel
theorem dX10_ends_12 : decode cX10_ends 12 = .ok (.getfield 202, 3) := by decide +kernel
theorem dX10_ends_15 : decode cX10_ends 15 = .ok (.aload_n 0, 1) := by decide +kernel
theorem dX10_ends_16 : decode cX10_ends 16 = .ok (.getfield 355, 3) := by decide +kernel
theorem dX10_ends_19 : decode cX10_ends 19 = .ok (.if_icmp .lt 7, 3) := by decide +kernel
theorem dX10_ends_22 : decode cX10_ends 22 = .ok (.iconst 1, 1) := by decide +kernel
theorem dX10_ends_23 : decode cX10_ends 23 = .ok (.goto 4, 3) := by decide +kernel
theorem dX10_ends_26 : decode cX10_ends 26 = .ok (.iconst 0, 1) := by decide +kernel
theorem dX10_ends_27 : decode cX10_ends 27 = .ok (.istore_n 2, 1) := by decide +kernel
theorem dX10_ends_28 : decode cX10_ends 28 = .ok (.iconst 0, 1) := by decide +kernel
theorem dX10_ends_29 : decode cX10_ends 29 = .ok (.istore_n 3, 1) := by decide +kernel
theorem dX10_ends_30 : decode cX10_ends 30 = .ok (.iload_n 3, 1) := by decide +kernel
theorem dX10_ends_31 : decode cX10_ends 31 = .ok (.aload_n 0, 1) := by decide +kernel
theorem dX10_ends_32 : decode cX10_ends 32 = .ok (.getfield 358, 3) := by decide +kernel
theorem dX10_ends_35 : decode cX10_ends 35 = .ok (.if_icmp .ge 34, 3) := by decide +kernel
theorem dX10_ends_38 : decode cX10_ends 38 = .ok (.iload_n 2, 1) := by decide +kernel
theorem dX10_ends_39 : decode cX10_ends 39 = .ok (.ifCond .eq 30, 3) := by decide +kernel
theorem dX10_ends_42 : decode cX10_ends 42 = .ok (.aload_n 0, 1) := by decide +kernel
theorem dX10_ends_43 : decode cX10_ends 43 = .ok (.getfield 57, 3) := by decide +kernel
theorem dX10_ends_46 : decode cX10_ends 46 = .ok (.iload_n 3, 1) := by decide +kernel
theorem dX10_ends_47 : decode cX10_ends 47 = .ok (.baload, 1) := by decide +kernel
theorem dX10_ends_48 : decode cX10_ends 48 = .ok (.aload_n 0, 1) := by decide +kernel
theorem dX10_ends_49 : decode cX10_ends 49 = .ok (.getfield 66, 3) := by decide +kernel
theorem dX10_ends_52 : decode cX10_ends 52 = .ok (.iload_n 3, 1) := by decide +kernel
theorem dX10_ends_53 : decode cX10_ends 53 = .ok (.baload, 1) := by decide +kernel
theorem dX10_ends_54 : decode cX10_ends 54 = .ok (.if_icmp .ne 7, 3) := by decide +kernel
theorem dX10_ends_57 : decode cX10_ends 57 = .ok (.iconst 1, 1) := by decide +kernel
theorem dX10_ends_58 : decode cX10_ends 58 = .ok (.goto 4, 3) := by decide +kernel
theorem dX10_ends_61 : decode cX10_ends 61 = .ok (.iconst 0, 1) := by decide +kernel
theorem dX10_ends_62 : decode cX10_ends 62 = .ok (.istore_n 2, 1) := by decide +kernel
theorem dX10_ends_63 : decode cX10_ends 63 = .ok (.iinc 3 1, 3) := by decide +kernel
theorem dX10_ends_66 : decode cX10_ends 66 = .ok (.goto (-36), 3) := by decide +kernel
theorem dX10_ends_69 : decode cX10_ends 69 = .ok (.iconst 0, 1) := by decide +kernel
theorem dX10_ends_70 : decode cX10_ends 70 = .ok (.istore_n 3, 1) := by decide +kernel
theorem dX10_ends_71 : decode cX10_ends 71 = .ok (.iload_n 3, 1) := by decide +kernel
theorem dX10_ends_72 : decode cX10_ends 72 = .ok (.bipush 16, 2) := by decide +kernel
theorem dX10_ends_74 : decode cX10_ends 74 = .ok (.aload_n 0, 1) := by decide +kernel
theorem dX10_ends_75 : decode cX10_ends 75 = .ok (.getfield 355, 3) := by decide +kernel
theorem dX10_ends_78 : decode cX10_ends 78 = .ok (.imul, 1) := by decide +kernel
theorem dX10_ends_79 : decode cX10_ends 79 = .ok (.if_icmp .ge 36, 3) := by decide +kernel
theorem dX10_ends_82 : decode cX10_ends 82 = .ok (.iload_n 2, 1) := by decide +kernel
theorem dX10_ends_83 : decode cX10_ends 83 = .ok (.ifCond .eq 32, 3) := by decide +kernel
theorem dX10_ends_86 : decode cX10_ends 86 = .ok (.aload_n 0, 1) := by decide +kernel
theorem dX10_ends_87 : decode cX10_ends 87 = .ok (.getfield 60, 3) := by decide +kernel
theorem dX10_ends_90 : decode cX10_ends 90 = .ok (.iload_n 3, 1) := by decide +kernel
theorem dX10_ends_91 : decode cX10_ends 91 = .ok (.baload, 1) := by decide +kernel
theorem dX10_ends_92 : decode cX10_ends 92 = .ok (.aload_n 0, 1) := by decide +kernel
theorem dX10_ends_93 : decode cX10_ends 93 = .ok (.getfield 66, 3) := by decide +kernel
theorem dX10_ends_96 : decode cX10_ends 96 = .ok (.iconst 1, 1) := by decide +kernel
theorem dX10_ends_97 : decode cX10_ends 97 = .ok (.iload_n 3, 1) := by decide +kernel
theorem dX10_ends_98 : decode cX10_ends 98 = .ok (.iadd, 1) := by decide +kernel
theorem dX10_ends_99 : decode cX10_ends 99 = .ok (.baload, 1) := by decide +kernel
theorem dX10_ends_100 : decode cX10_ends 100 = .ok (.if_icmp .ne 7, 3) := by decide +kernel
theorem dX10_ends_103 : decode cX10_ends 103 = .ok (.iconst 1, 1) := by decide +kernel
theorem dX10_ends_104 : decode cX10_ends 104 = .ok (.goto 4, 3) := by decide +kernel
theorem dX10_ends_107 : decode cX10_ends 107 = .ok (.iconst 0, 1) := by decide +kernel
theorem dX10_ends_108 : decode cX10_ends 108 = .ok (.istore_n 2, 1) := by decide +kernel
theorem dX10_ends_109 : decode cX10_ends 109 = .ok (.iinc 3 1, 3) := by decide +kernel
theorem dX10_ends_112 : decode cX10_ends 112 = .ok (.goto (-41), 3) := by decide +kernel
theorem dX10_ends_115 : decode cX10_ends 115 = .ok (.iload_n 2, 1) := by decide +kernel
theorem dX10_ends_116 : decode cX10_ends 116 = .ok (.ifCond .ne 22, 3) := by decide +kernel
theorem dX10_ends_119 : decode cX10_ends 119 = .ok (.aload_n 0, 1) := by decide +kernel
theorem dX10_ends_120 : decode cX10_ends 120 = .ok (.bipush 58, 2) := by decide +kernel
theorem dX10_ends_122 : decode cX10_ends 122 = .ok (.iconst 1, 1) := by decide +kernel
theorem dX10_ends_123 : decode cX10_ends 123 = .ok (.iload_n 1, 1) := by decide +kernel
theorem dX10_ends_124 : decode cX10_ends 124 = .ok (.invokevirtual 239, 3) := by decide +kernel
theorem dX10_ends_127 : decode cX10_ends 127 = .ok (.ifCond .eq 10, 3) := by decide +kernel
theorem dX10_ends_130 : decode cX10_ends 130 = .ok (.aload_n 0, 1) := by decide +kernel
theorem dX10_ends_131 : decode cX10_ends 131 = .ok (.iconst 2, 1) := by decide +kernel
theorem dX10_ends_132 : decode cX10_ends 132 = .ok (.bipush 11, 2) := by decide +kernel
theorem dX10_ends_134 : decode cX10_ends 134 = .ok (.invokevirtual 325, 3) := by decide +kernel
theorem dX10_ends_137 : decode cX10_ends 137 = .ok (.return_, 1) := by decide +kernel
theorem dX10_ends_138 : decode cX10_ends 138 = .ok (.aload_n 0, 1) := by decide +kernel
theorem dX10_ends_139 : decode cX10_ends 139 = .ok (.aload_n 0, 1) := by decide +kernel
theorem dX10_ends_140 : decode cX10_ends 140 = .ok (.getfield 355, 3) := by decide +kernel
theorem dX10_ends_143 : decode cX10_ends 143 = .ok (.iconst 1, 1) := by decide +kernel
theorem dX10_ends_144 : decode cX10_ends 144 = .ok (.isub, 1) := by decide +kernel
theorem dX10_ends_145 : decode cX10_ends 145 = .ok (.invokevirtual 361, 3) := by decide +kernel
theorem dX10_ends_148 : decode cX10_ends 148 = .ok (.lstore_n 3, 1) := by decide +kernel
theorem dX10_ends_149 : decode cX10_ends 149 = .ok (.aload_n 0, 1) := by decide +kernel
theorem dX10_ends_150 : decode cX10_ends 150 = .ok (.bipush 57, 2) := by decide +kernel
theorem dX10_ends_152 : decode cX10_ends 152 = .ok (.iconst 0, 1) := by decide +kernel
theorem dX10_ends_153 : decode cX10_ends 153 = .ok (.iload_n 1, 1) := by decide +kernel
theorem dX10_ends_154 : decode cX10_ends 154 = .ok (.invokevirtual 239, 3) := by decide +kernel
theorem dX10_ends_157 : decode cX10_ends 157 = .ok (.ifCond .eq 69, 3) := by decide +kernel
theorem dX10_ends_160 : decode cX10_ends 160 = .ok (.iconst 0, 1) := by decide +kernel
theorem dX10_ends_161 : decode cX10_ends 161 = .ok (.istore 5, 2) := by decide +kernel
theorem dX10_ends_163 : decode cX10_ends 163 = .ok (.iload 5, 2) := by decide +kernel
theorem dX10_ends_165 : decode cX10_ends 165 = .ok (.aload_n 0, 1) := by decide +kernel
theorem dX10_ends_166 : decode cX10_ends 166 = .ok (.getfield 202, 3) := by decide +kernel
theorem dX10_ends_169 : decode cX10_ends 169 = .ok (.if_icmp .ge 20, 3) := by decide +kernel
theorem dX10_ends_172 : decode cX10_ends 172 = .ok (.aload_n 0, 1) := by decide +kernel
theorem dX10_ends_173 : decode cX10_ends 173 = .ok (.iload 5, 2) := by decide +kernel
theorem dX10_ends_175 : decode cX10_ends 175 = .ok (.invokevirtual 361, 3) := by decide +kernel
theorem dX10_ends_178 : decode cX10_ends 178 = .ok (.lload_n 3, 1) := by decide +kernel
theorem dX10_ends_179 : decode cX10_ends 179 = .ok (.lcmp, 1) := by decide +kernel
theorem dX10_ends_180 : decode cX10_ends 180 = .ok (.ifCond .gt 9, 3) := by decide +kernel
theorem dX10_ends_183 : decode cX10_ends 183 = .ok (.iinc 5 1, 3) := by decide +kernel
theorem dX10_ends_186 : decode cX10_ends 186 = .ok (.goto (-23), 3) := by decide +kernel
theorem dX10_ends_189 : decode cX10_ends 189 = .ok (.aload_n 0, 1) := by decide +kernel
theorem dX10_ends_190 : decode cX10_ends 190 = .ok (.iload 5, 2) := by decide +kernel
theorem dX10_ends_192 : decode cX10_ends 192 = .ok (.invokevirtual 215, 3) := by decide +kernel
theorem dX10_ends_195 : decode cX10_ends 195 = .ok (.aload_n 0, 1) := by decide +kernel
theorem dX10_ends_196 : decode cX10_ends 196 = .ok (.aload_n 0, 1) := by decide +kernel
theorem dX10_ends_197 : decode cX10_ends 197 = .ok (.getfield 221, 3) := by decide +kernel
theorem dX10_ends_200 : decode cX10_ends 200 = .ok (.ifCond .eq 16, 3) := by decide +kernel
theorem dX10_ends_203 : decode cX10_ends 203 = .ok (.aload_n 0, 1) := by decide +kernel
theorem dX10_ends_204 : decode cX10_ends 204 = .ok (.getfield 202, 3) := by decide +kernel
theorem dX10_ends_207 : decode cX10_ends 207 = .ok (.bipush 64, 2) := by decide +kernel
theorem dX10_ends_209 : decode cX10_ends 209 = .ok (.if_icmp .lt 7, 3) := by decide +kernel
theorem dX10_ends_212 : decode cX10_ends 212 = .ok (.iconst 1, 1) := by decide +kernel
theorem dX10_ends_213 : decode cX10_ends 213 = .ok (.goto 4, 3) := by decide +kernel
theorem dX10_ends_216 : decode cX10_ends 216 = .ok (.iconst 0, 1) := by decide +kernel
theorem dX10_ends_217 : decode cX10_ends 217 = .ok (.putfield 221, 3) := by decide +kernel
theorem dX10_ends_220 : decode cX10_ends 220 = .ok (.aload_n 0, 1) := by decide +kernel
theorem dX10_ends_221 : decode cX10_ends 221 = .ok (.iconst 2, 1) := by decide +kernel
theorem dX10_ends_222 : decode cX10_ends 222 = .ok (.iconst 5, 1) := by decide +kernel
theorem dX10_ends_223 : decode cX10_ends 223 = .ok (.invokevirtual 325, 3) := by decide +kernel
theorem dX10_ends_226 : decode cX10_ends 226 = .ok (.return_, 1) := by decide +kernel
theorem dX10_shuts_0 : decode cX10_shuts 0 = .ok (.aload_n 0, 1) := by decide +kernel
theorem dX10_shuts_1 : decode cX10_shuts 1 = .ok (.getfield 193, 3) := by decide +kernel
theorem dX10_shuts_4 : decode cX10_shuts 4 = .ok (.ifCond .eq 21, 3) := by decide +kernel
theorem dX10_shuts_7 : decode cX10_shuts 7 = .ok (.aload_n 0, 1) := by decide +kernel
theorem dX10_shuts_8 : decode cX10_shuts 8 = .ok (.bipush 63, 2) := by decide +kernel
theorem dX10_shuts_10 : decode cX10_shuts 10 = .ok (.iconst 1, 1) := by decide +kernel
theorem dX10_shuts_11 : decode cX10_shuts 11 = .ok (.iload_n 1, 1) := by decide +kernel
theorem dX10_shuts_12 : decode cX10_shuts 12 = .ok (.invokevirtual 239, 3) := by decide +kernel
theorem dX10_shuts_15 : decode cX10_shuts 15 = .ok (.ifCond .eq 9, 3) := by decide +kernel
theorem dX10_shuts_18 : decode cX10_shuts 18 = .ok (.aload_n 0, 1) := by decide +kernel
theorem dX10_shuts_19 : decode cX10_shuts 19 = .ok (.iconst 2, 1) := by decide +kernel
theorem dX10_shuts_20 : decode cX10_shuts 20 = .ok (.iconst 5, 1) := by decide +kernel
theorem dX10_shuts_21 : decode cX10_shuts 21 = .ok (.invokevirtual 325, 3) := by decide +kernel
theorem dX10_shuts_24 : decode cX10_shuts 24 = .ok (.return_, 1) := by decide +kernel
theorem dX10_shuts_25 : decode cX10_shuts 25 = .ok (.aload_n 0, 1) := by decide +kernel
theorem dX10_shuts_26 : decode cX10_shuts 26 = .ok (.getfield 256, 3) := by decide +kernel
theorem dX10_shuts_29 : decode cX10_shuts 29 = .ok (.ifCond .eq 14, 3) := by decide +kernel
theorem dX10_shuts_32 : decode cX10_shuts 32 = .ok (.aload_n 0, 1) := by decide +kernel
theorem dX10_shuts_33 : decode cX10_shuts 33 = .ok (.bipush 23, 2) := by decide +kernel
theorem dX10_shuts_35 : decode cX10_shuts 35 = .ok (.iconst 0, 1) := by decide +kernel
theorem dX10_shuts_36 : decode cX10_shuts 36 = .ok (.iconst (-1), 1) := by decide +kernel
theorem dX10_shuts_37 : decode cX10_shuts 37 = .ok (.invokevirtual 239, 3) := by decide +kernel
theorem dX10_shuts_40 : decode cX10_shuts 40 = .ok (.ifCond .eq 7, 3) := by decide +kernel
theorem dX10_shuts_43 : decode cX10_shuts 43 = .ok (.iconst 1, 1) := by decide +kernel
theorem dX10_shuts_44 : decode cX10_shuts 44 = .ok (.goto 4, 3) := by decide +kernel
theorem dX10_shuts_47 : decode cX10_shuts 47 = .ok (.iconst 0, 1) := by decide +kernel
theorem dX10_shuts_48 : decode cX10_shuts 48 = .ok (.istore_n 2, 1) := by decide +kernel
theorem dX10_shuts_49 : decode cX10_shuts 49 = .ok (.iload_n 2, 1) := by decide +kernel
theorem dX10_shuts_50 : decode cX10_shuts 50 = .ok (.ifCond .eq 52, 3) := by decide +kernel
theorem dX10_shuts_53 : decode cX10_shuts 53 = .ok (.aload_n 0, 1) := by decide +kernel
theorem dX10_shuts_54 : decode cX10_shuts 54 = .ok (.bipush 62, 2) := by decide +kernel
theorem dX10_shuts_56 : decode cX10_shuts 56 = .ok (.iconst 0, 1) := by decide +kernel
theorem dX10_shuts_57 : decode cX10_shuts 57 = .ok (.iload_n 1, 1) := by decide +kernel
theorem dX10_shuts_58 : decode cX10_shuts 58 = .ok (.invokevirtual 239, 3) := by decide +kernel
theorem dX10_shuts_61 : decode cX10_shuts 61 = .ok (.ifCond .eq 41, 3) := by decide +kernel
theorem dX10_shuts_64 : decode cX10_shuts 64 = .ok (.aload_n 0, 1) := by decide +kernel
theorem dX10_shuts_65 : decode cX10_shuts 65 = .ok (.iconst 0, 1) := by decide +kernel
theorem dX10_shuts_66 : decode cX10_shuts 66 = .ok (.putfield 256, 3) := by decide +kernel
theorem dX10_shuts_69 : decode cX10_shuts 69 = .ok (.aload_n 0, 1) := by decide +kernel
theorem dX10_shuts_70 : decode cX10_shuts 70 = .ok (.iconst 0, 1) := by decide +kernel
theorem dX10_shuts_71 : decode cX10_shuts 71 = .ok (.putfield 268, 3) := by decide +kernel
theorem dX10_shuts_74 : decode cX10_shuts 74 = .ok (.aload_n 0, 1) := by decide +kernel
theorem dX10_shuts_75 : decode cX10_shuts 75 = .ok (.iconst (-1), 1) := by decide +kernel
theorem dX10_shuts_76 : decode cX10_shuts 76 = .ok (.putfield 85, 3) := by decide +kernel
theorem dX10_shuts_79 : decode cX10_shuts 79 = .ok (.aload_n 0, 1) := by decide +kernel
theorem dX10_shuts_80 : decode cX10_shuts 80 = .ok (.iconst (-1), 1) := by decide +kernel
theorem dX10_shuts_81 : decode cX10_shuts 81 = .ok (.putfield 94, 3) := by decide +kernel
theorem dX10_shuts_84 : decode cX10_shuts 84 = .ok (.aload_n 0, 1) := by decide +kernel
theorem dX10_shuts_85 : decode cX10_shuts 85 = .ok (.iconst 0, 1) := by decide +kernel
theorem dX10_shuts_86 : decode cX10_shuts 86 = .ok (.putfield 246, 3) := by decide +kernel
theorem dX10_shuts_89 : decode cX10_shuts 89 = .ok (.aload_n 0, 1) := by decide +kernel
theorem dX10_shuts_90 : decode cX10_shuts 90 = .ok (.iconst 0, 1) := by decide +kernel
theorem dX10_shuts_91 : decode cX10_shuts 91 = .ok (.putfield 271, 3) := by decide +kernel
theorem dX10_shuts_94 : decode cX10_shuts 94 = .ok (.aload_n 0, 1) := by decide +kernel
theorem dX10_shuts_95 : decode cX10_shuts 95 = .ok (.bipush 7, 2) := by decide +kernel
theorem dX10_shuts_97 : decode cX10_shuts 97 = .ok (.bipush 12, 2) := by decide +kernel
theorem dX10_shuts_99 : decode cX10_shuts 99 = .ok (.invokevirtual 325, 3) := by decide +kernel
theorem dX10_shuts_102 : decode cX10_shuts 102 = .ok (.return_, 1) := by decide +kernel
theorem dX10_diskField_0 : decode cX10_diskField 0 = .ok (.lconst 0, 1) := by decide +kernel
theorem dX10_diskField_1 : decode cX10_diskField 1 = .ok (.lstore_n 3, 1) := by decide +kernel
theorem dX10_diskField_2 : decode cX10_diskField 2 = .ok (.iload_n 1, 1) := by decide +kernel
theorem dX10_diskField_3 : decode cX10_diskField 3 = .ok (.istore 5, 2) := by decide +kernel
theorem dX10_diskField_5 : decode cX10_diskField 5 = .ok (.iload 5, 2) := by decide +kernel
theorem dX10_diskField_7 : decode cX10_diskField 7 = .ok (.iload_n 1, 1) := by decide +kernel
theorem dX10_diskField_8 : decode cX10_diskField 8 = .ok (.iload_n 2, 1) := by decide +kernel
theorem dX10_diskField_9 : decode cX10_diskField 9 = .ok (.iadd, 1) := by decide +kernel
theorem dX10_diskField_10 : decode cX10_diskField 10 = .ok (.if_icmp .ge 27, 3) := by decide +kernel
theorem dX10_diskField_13 : decode cX10_diskField 13 = .ok (.lload_n 3, 1) := by decide +kernel
theorem dX10_diskField_14 : decode cX10_diskField 14 = .ok (.bipush 8, 2) := by decide +kernel
theorem dX10_diskField_16 : decode cX10_diskField 16 = .ok (.lshl, 1) := by decide +kernel
theorem dX10_diskField_17 : decode cX10_diskField 17 = .ok (.aload_n 0, 1) := by decide +kernel
theorem dX10_diskField_18 : decode cX10_diskField 18 = .ok (.getfield 57, 3) := by decide +kernel
theorem dX10_diskField_21 : decode cX10_diskField 21 = .ok (.iload 5, 2) := by decide +kernel
theorem dX10_diskField_23 : decode cX10_diskField 23 = .ok (.baload, 1) := by decide +kernel
theorem dX10_diskField_24 : decode cX10_diskField 24 = .ok (.i2l, 1) := by decide +kernel
theorem dX10_diskField_25 : decode cX10_diskField 25 = .ok (.ldc2_w 161, 3) := by decide +kernel
theorem dX10_diskField_28 : decode cX10_diskField 28 = .ok (.land, 1) := by decide +kernel
theorem dX10_diskField_29 : decode cX10_diskField 29 = .ok (.lor, 1) := by decide +kernel
theorem dX10_diskField_30 : decode cX10_diskField 30 = .ok (.lstore_n 3, 1) := by decide +kernel
theorem dX10_diskField_31 : decode cX10_diskField 31 = .ok (.iinc 5 1, 3) := by decide +kernel
theorem dX10_diskField_34 : decode cX10_diskField 34 = .ok (.goto (-29), 3) := by decide +kernel
theorem dX10_diskField_37 : decode cX10_diskField 37 = .ok (.lload_n 3, 1) := by decide +kernel
theorem dX10_diskField_38 : decode cX10_diskField 38 = .ok (.lreturn, 1) := by decide +kernel
theorem dX10_isEnrolment_0 : decode cX10_isEnrolment 0 = .ok (.aload_n 0, 1) := by decide +kernel
theorem dX10_isEnrolment_1 : decode cX10_isEnrolment 1 = .ok (.getfield 79, 3) := by decide +kernel
theorem dX10_isEnrolment_4 : decode cX10_isEnrolment 4 = .ok (.bipush 20, 2) := by decide +kernel
theorem dX10_isEnrolment_6 : decode cX10_isEnrolment 6 = .ok (.if_icmp .lt 56, 3) := by decide +kernel
theorem dX10_isEnrolment_9 : decode cX10_isEnrolment 9 = .ok (.aload_n 0, 1) := by decide +kernel
theorem dX10_isEnrolment_10 : decode cX10_isEnrolment 10 = .ok (.getfield 57, 3) := by decide +kernel
theorem dX10_isEnrolment_13 : decode cX10_isEnrolment 13 = .ok (.iconst 0, 1) := by decide +kernel
theorem dX10_isEnrolment_14 : decode cX10_isEnrolment 14 = .ok (.baload, 1) := by decide +kernel
theorem dX10_isEnrolment_15 : decode cX10_isEnrolment 15 = .ok (.bipush 69, 2) := by decide +kernel
theorem dX10_isEnrolment_17 : decode cX10_isEnrolment 17 = .ok (.if_icmp .ne 45, 3) := by decide +kernel
theorem dX10_isEnrolment_20 : decode cX10_isEnrolment 20 = .ok (.aload_n 0, 1) := by decide +kernel
theorem dX10_isEnrolment_21 : decode cX10_isEnrolment 21 = .ok (.getfield 57, 3) := by decide +kernel
theorem dX10_isEnrolment_24 : decode cX10_isEnrolment 24 = .ok (.bipush 19, 2) := by decide +kernel
theorem dX10_isEnrolment_26 : decode cX10_isEnrolment 26 = .ok (.baload, 1) := by decide +kernel
theorem dX10_isEnrolment_27 : decode cX10_isEnrolment 27 = .ok (.ifCond .lt 35, 3) := by decide +kernel
theorem dX10_isEnrolment_30 : decode cX10_isEnrolment 30 = .ok (.aload_n 0, 1) := by decide +kernel
theorem dX10_isEnrolment_31 : decode cX10_isEnrolment 31 = .ok (.getfield 57, 3) := by decide +kernel
theorem dX10_isEnrolment_34 : decode cX10_isEnrolment 34 = .ok (.bipush 19, 2) := by decide +kernel
theorem dX10_isEnrolment_36 : decode cX10_isEnrolment 36 = .ok (.baload, 1) := by decide +kernel
theorem dX10_isEnrolment_37 : decode cX10_isEnrolment 37 = .ok (.bipush 6, 2) := by decide +kernel
theorem dX10_isEnrolment_39 : decode cX10_isEnrolment 39 = .ok (.if_icmp .gt 23, 3) := by decide +kernel
theorem dX10_isEnrolment_42 : decode cX10_isEnrolment 42 = .ok (.aload_n 0, 1) := by decide +kernel
theorem dX10_isEnrolment_43 : decode cX10_isEnrolment 43 = .ok (.getfield 79, 3) := by decide +kernel
theorem dX10_isEnrolment_46 : decode cX10_isEnrolment 46 = .ok (.bipush 20, 2) := by decide +kernel
theorem dX10_isEnrolment_48 : decode cX10_isEnrolment 48 = .ok (.bipush 18, 2) := by decide +kernel
theorem dX10_isEnrolment_50 : decode cX10_isEnrolment 50 = .ok (.aload_n 0, 1) := by decide +kernel
theorem dX10_isEnrolment_51 : decode cX10_isEnrolment 51 = .ok (.getfield 57, 3) := by decide +kernel
theorem dX10_isEnrolment_54 : decode cX10_isEnrolment 54 = .ok (.bipush 19, 2) := by decide +kernel
theorem dX10_isEnrolment_56 : decode cX10_isEnrolment 56 = .ok (.baload, 1) := by decide +kernel
theorem dX10_isEnrolment_57 : decode cX10_isEnrolment 57 = .ok (.imul, 1) := by decide +kernel
theorem dX10_isEnrolment_58 : decode cX10_isEnrolment 58 = .ok (.iadd, 1) := by decide +kernel
theorem dX10_isEnrolment_59 : decode cX10_isEnrolment 59 = .ok (.if_icmp .eq 5, 3) := by decide +kernel
theorem dX10_isEnrolment_62 : decode cX10_isEnrolment 62 = .ok (.iconst 0, 1) := by decide +kernel
theorem dX10_isEnrolment_63 : decode cX10_isEnrolment 63 = .ok (.ireturn, 1) := by decide +kernel
theorem dX10_isEnrolment_64 : decode cX10_isEnrolment 64 = .ok (.iconst 1, 1) := by decide +kernel
theorem dX10_isEnrolment_65 : decode cX10_isEnrolment 65 = .ok (.istore_n 1, 1) := by decide +kernel
theorem dX10_isEnrolment_66 : decode cX10_isEnrolment 66 = .ok (.iconst 0, 1) := by decide +kernel
theorem dX10_isEnrolment_67 : decode cX10_isEnrolment 67 = .ok (.istore_n 2, 1) := by decide +kernel
theorem dX10_isEnrolment_68 : decode cX10_isEnrolment 68 = .ok (.iload_n 2, 1) := by decide +kernel
theorem dX10_isEnrolment_69 : decode cX10_isEnrolment 69 = .ok (.aload_n 0, 1) := by decide +kernel
theorem dX10_isEnrolment_70 : decode cX10_isEnrolment 70 = .ok (.getfield 57, 3) := by decide +kernel
theorem dX10_isEnrolment_73 : decode cX10_isEnrolment 73 = .ok (.bipush 19, 2) := by decide +kernel
theorem dX10_isEnrolment_75 : decode cX10_isEnrolment 75 = .ok (.baload, 1) := by decide +kernel
theorem dX10_isEnrolment_76 : decode cX10_isEnrolment 76 = .ok (.if_icmp .ge 86, 3) := by decide +kernel
theorem dX10_isEnrolment_79 : decode cX10_isEnrolment 79 = .ok (.aload_n 0, 1) := by decide +kernel
theorem dX10_isEnrolment_80 : decode cX10_isEnrolment 80 = .ok (.bipush 20, 2) := by decide +kernel
theorem dX10_isEnrolment_82 : decode cX10_isEnrolment 82 = .ok (.bipush 18, 2) := by decide +kernel
theorem dX10_isEnrolment_84 : decode cX10_isEnrolment 84 = .ok (.iload_n 2, 1) := by decide +kernel
theorem dX10_isEnrolment_85 : decode cX10_isEnrolment 85 = .ok (.imul, 1) := by decide +kernel
theorem dX10_isEnrolment_86 : decode cX10_isEnrolment 86 = .ok (.iadd, 1) := by decide +kernel
theorem dX10_isEnrolment_87 : decode cX10_isEnrolment 87 = .ok (.iconst 2, 1) := by decide +kernel
theorem dX10_isEnrolment_88 : decode cX10_isEnrolment 88 = .ok (.invokevirtual 365, 3) := by decide +kernel
theorem dX10_isEnrolment_91 : decode cX10_isEnrolment 91 = .ok (.lstore_n 3, 1) := by decide +kernel
theorem dX10_isEnrolment_92 : decode cX10_isEnrolment 92 = .ok (.iload_n 1, 1) := by decide +kernel
theorem dX10_isEnrolment_93 : decode cX10_isEnrolment 93 = .ok (.ifCond .eq 18, 3) := by decide +kernel
theorem dX10_isEnrolment_96 : decode cX10_isEnrolment 96 = .ok (.lload_n 3, 1) := by decide +kernel
theorem dX10_isEnrolment_97 : decode cX10_isEnrolment 97 = .ok (.aload_n 0, 1) := by decide +kernel
theorem dX10_isEnrolment_98 : decode cX10_isEnrolment 98 = .ok (.iconst 1, 1) := by decide +kernel
theorem dX10_isEnrolment_99 : decode cX10_isEnrolment 99 = .ok (.iconst 2, 1) := by decide +kernel
theorem dX10_isEnrolment_100 : decode cX10_isEnrolment 100 = .ok (.invokevirtual 365, 3) := by decide +kernel
theorem dX10_isEnrolment_103 : decode cX10_isEnrolment 103 = .ok (.lcmp, 1) := by decide +kernel
theorem dX10_isEnrolment_104 : decode cX10_isEnrolment 104 = .ok (.ifCond .eq 7, 3) := by decide +kernel
theorem dX10_isEnrolment_107 : decode cX10_isEnrolment 107 = .ok (.iconst 1, 1) := by decide +kernel
theorem dX10_isEnrolment_108 : decode cX10_isEnrolment 108 = .ok (.goto 4, 3) := by decide +kernel
theorem dX10_isEnrolment_111 : decode cX10_isEnrolment 111 = .ok (.iconst 0, 1) := by decide +kernel
theorem dX10_isEnrolment_112 : decode cX10_isEnrolment 112 = .ok (.istore_n 1, 1) := by decide +kernel
theorem dX10_isEnrolment_113 : decode cX10_isEnrolment 113 = .ok (.iconst 0, 1) := by decide +kernel
theorem dX10_isEnrolment_114 : decode cX10_isEnrolment 114 = .ok (.istore 5, 2) := by decide +kernel
theorem dX10_isEnrolment_116 : decode cX10_isEnrolment 116 = .ok (.iload 5, 2) := by decide +kernel
theorem dX10_isEnrolment_118 : decode cX10_isEnrolment 118 = .ok (.iload_n 2, 1) := by decide +kernel
theorem dX10_isEnrolment_119 : decode cX10_isEnrolment 119 = .ok (.if_icmp .ge 37, 3) := by decide +kernel
theorem dX10_isEnrolment_122 : decode cX10_isEnrolment 122 = .ok (.iload_n 1, 1) := by decide +kernel
theorem dX10_isEnrolment_123 : decode cX10_isEnrolment 123 = .ok (.ifCond .eq 25, 3) := by decide +kernel
theorem dX10_isEnrolment_126 : decode cX10_isEnrolment 126 = .ok (.lload_n 3, 1) := by decide +kernel
theorem dX10_isEnrolment_127 : decode cX10_isEnrolment 127 = .ok (.aload_n 0, 1) := by decide +kernel
theorem dX10_isEnrolment_128 : decode cX10_isEnrolment 128 = .ok (.bipush 20, 2) := by decide +kernel
theorem dX10_isEnrolment_130 : decode cX10_isEnrolment 130 = .ok (.bipush 18, 2) := by decide +kernel
theorem dX10_isEnrolment_132 : decode cX10_isEnrolment 132 = .ok (.iload 5, 2) := by decide +kernel
theorem dX10_isEnrolment_134 : decode cX10_isEnrolment 134 = .ok (.imul, 1) := by decide +kernel
theorem dX10_isEnrolment_135 : decode cX10_isEnrolment 135 = .ok (.iadd, 1) := by decide +kernel
theorem dX10_isEnrolment_136 : decode cX10_isEnrolment 136 = .ok (.iconst 2, 1) := by decide +kernel
theorem dX10_isEnrolment_137 : decode cX10_isEnrolment 137 = .ok (.invokevirtual 365, 3) := by decide +kernel
theorem dX10_isEnrolment_140 : decode cX10_isEnrolment 140 = .ok (.lcmp, 1) := by decide +kernel
theorem dX10_isEnrolment_141 : decode cX10_isEnrolment 141 = .ok (.ifCond .eq 7, 3) := by decide +kernel
theorem dX10_isEnrolment_144 : decode cX10_isEnrolment 144 = .ok (.iconst 1, 1) := by decide +kernel
theorem dX10_isEnrolment_145 : decode cX10_isEnrolment 145 = .ok (.goto 4, 3) := by decide +kernel
theorem dX10_isEnrolment_148 : decode cX10_isEnrolment 148 = .ok (.iconst 0, 1) := by decide +kernel
theorem dX10_isEnrolment_149 : decode cX10_isEnrolment 149 = .ok (.istore_n 1, 1) := by decide +kernel
theorem dX10_isEnrolment_150 : decode cX10_isEnrolment 150 = .ok (.iinc 5 1, 3) := by decide +kernel
theorem dX10_isEnrolment_153 : decode cX10_isEnrolment 153 = .ok (.goto (-37), 3) := by decide +kernel
theorem dX10_isEnrolment_156 : decode cX10_isEnrolment 156 = .ok (.iinc 2 1, 3) := by decide +kernel
theorem dX10_isEnrolment_159 : decode cX10_isEnrolment 159 = .ok (.goto (-91), 3) := by decide +kernel
theorem dX10_isEnrolment_162 : decode cX10_isEnrolment 162 = .ok (.iload_n 1, 1) := by decide +kernel
theorem dX10_isEnrolment_163 : decode cX10_isEnrolment 163 = .ok (.ireturn, 1) := by decide +kernel
theorem dX10_enrols_0 : decode cX10_enrols 0 = .ok (.aload_n 0, 1) := by decide +kernel
theorem dX10_enrols_1 : decode cX10_enrols 1 = .ok (.invokevirtual 369, 3) := by decide +kernel
theorem dX10_enrols_4 : decode cX10_enrols 4 = .ok (.ifCond .ne 22, 3) := by decide +kernel
theorem dX10_enrols_7 : decode cX10_enrols 7 = .ok (.aload_n 0, 1) := by decide +kernel
theorem dX10_enrols_8 : decode cX10_enrols 8 = .ok (.bipush 41, 2) := by decide +kernel
theorem dX10_enrols_10 : decode cX10_enrols 10 = .ok (.iconst 1, 1) := by decide +kernel
theorem dX10_enrols_11 : decode cX10_enrols 11 = .ok (.iload_n 1, 1) := by decide +kernel
theorem dX10_enrols_12 : decode cX10_enrols 12 = .ok (.invokevirtual 239, 3) := by decide +kernel
theorem dX10_enrols_15 : decode cX10_enrols 15 = .ok (.ifCond .eq 10, 3) := by decide +kernel
theorem dX10_enrols_18 : decode cX10_enrols 18 = .ok (.aload_n 0, 1) := by decide +kernel
theorem dX10_enrols_19 : decode cX10_enrols 19 = .ok (.iconst 1, 1) := by decide +kernel
theorem dX10_enrols_20 : decode cX10_enrols 20 = .ok (.bipush 9, 2) := by decide +kernel
theorem dX10_enrols_22 : decode cX10_enrols 22 = .ok (.invokevirtual 325, 3) := by decide +kernel
theorem dX10_enrols_25 : decode cX10_enrols 25 = .ok (.return_, 1) := by decide +kernel
theorem dX10_enrols_26 : decode cX10_enrols 26 = .ok (.aload_n 0, 1) := by decide +kernel
theorem dX10_enrols_27 : decode cX10_enrols 27 = .ok (.bipush 40, 2) := by decide +kernel
theorem dX10_enrols_29 : decode cX10_enrols 29 = .ok (.iconst 0, 1) := by decide +kernel
theorem dX10_enrols_30 : decode cX10_enrols 30 = .ok (.iload_n 1, 1) := by decide +kernel
theorem dX10_enrols_31 : decode cX10_enrols 31 = .ok (.invokevirtual 239, 3) := by decide +kernel
theorem dX10_enrols_34 : decode cX10_enrols 34 = .ok (.ifCond .ne 4, 3) := by decide +kernel
theorem dX10_enrols_37 : decode cX10_enrols 37 = .ok (.return_, 1) := by decide +kernel
theorem dX10_enrols_38 : decode cX10_enrols 38 = .ok (.aload_n 0, 1) := by decide +kernel
theorem dX10_enrols_39 : decode cX10_enrols 39 = .ok (.iconst 1, 1) := by decide +kernel
theorem dX10_enrols_40 : decode cX10_enrols 40 = .ok (.aload_n 0, 1) := by decide +kernel
theorem dX10_enrols_41 : decode cX10_enrols 41 = .ok (.getfield 57, 3) := by decide +kernel
theorem dX10_enrols_44 : decode cX10_enrols 44 = .ok (.bipush 19, 2) := by decide +kernel
theorem dX10_enrols_46 : decode cX10_enrols 46 = .ok (.baload, 1) := by decide +kernel
theorem dX10_enrols_47 : decode cX10_enrols 47 = .ok (.iadd, 1) := by decide +kernel
theorem dX10_enrols_48 : decode cX10_enrols 48 = .ok (.putfield 163, 3) := by decide +kernel
theorem dX10_enrols_51 : decode cX10_enrols 51 = .ok (.aload_n 0, 1) := by decide +kernel
theorem dX10_enrols_52 : decode cX10_enrols 52 = .ok (.aload_n 0, 1) := by decide +kernel
theorem dX10_enrols_53 : decode cX10_enrols 53 = .ok (.iconst 1, 1) := by decide +kernel
theorem dX10_enrols_54 : decode cX10_enrols 54 = .ok (.iconst 2, 1) := by decide +kernel
theorem dX10_enrols_55 : decode cX10_enrols 55 = .ok (.invokevirtual 365, 3) := by decide +kernel
theorem dX10_enrols_58 : decode cX10_enrols 58 = .ok (.l2i, 1) := by decide +kernel
theorem dX10_enrols_59 : decode cX10_enrols 59 = .ok (.putfield 88, 3) := by decide +kernel
theorem dX10_enrols_62 : decode cX10_enrols 62 = .ok (.iconst 0, 1) := by decide +kernel
theorem dX10_enrols_63 : decode cX10_enrols 63 = .ok (.istore_n 2, 1) := by decide +kernel
theorem dX10_enrols_64 : decode cX10_enrols 64 = .ok (.iload_n 2, 1) := by decide +kernel
theorem dX10_enrols_65 : decode cX10_enrols 65 = .ok (.aload_n 0, 1) := by decide +kernel
theorem dX10_enrols_66 : decode cX10_enrols 66 = .ok (.getfield 163, 3) := by decide +kernel
theorem dX10_enrols_69 : decode cX10_enrols 69 = .ok (.if_icmp .ge 79, 3) := by decide +kernel
theorem dX10_enrols_72 : decode cX10_enrols 72 = .ok (.iload_n 2, 1) := by decide +kernel
theorem dX10_enrols_73 : decode cX10_enrols 73 = .ok (.ifCond .ne 7, 3) := by decide +kernel
theorem dX10_enrols_76 : decode cX10_enrols 76 = .ok (.iconst 1, 1) := by decide +kernel
theorem dX10_enrols_77 : decode cX10_enrols 77 = .ok (.goto 12, 3) := by decide +kernel
theorem dX10_enrols_80 : decode cX10_enrols 80 = .ok (.bipush 20, 2) := by decide +kernel
theorem dX10_enrols_82 : decode cX10_enrols 82 = .ok (.bipush 18, 2) := by decide +kernel
theorem dX10_enrols_84 : decode cX10_enrols 84 = .ok (.iload_n 2, 1) := by decide +kernel
theorem dX10_enrols_85 : decode cX10_enrols 85 = .ok (.iconst 1, 1) := by decide +kernel
theorem dX10_enrols_86 : decode cX10_enrols 86 = .ok (.isub, 1) := by decide +kernel
theorem dX10_enrols_87 : decode cX10_enrols 87 = .ok (.imul, 1) := by decide +kernel
theorem dX10_enrols_88 : decode cX10_enrols 88 = .ok (.iadd, 1) := by decide +kernel
theorem dX10_enrols_89 : decode cX10_enrols 89 = .ok (.istore_n 3, 1) := by decide +kernel
theorem dX10_enrols_90 : decode cX10_enrols 90 = .ok (.aload_n 0, 1) := by decide +kernel
theorem dX10_enrols_91 : decode cX10_enrols 91 = .ok (.getfield 51, 3) := by decide +kernel
theorem dX10_enrols_94 : decode cX10_enrols 94 = .ok (.iload_n 2, 1) := by decide +kernel
theorem dX10_enrols_95 : decode cX10_enrols 95 = .ok (.aload_n 0, 1) := by decide +kernel
theorem dX10_enrols_96 : decode cX10_enrols 96 = .ok (.iload_n 3, 1) := by decide +kernel
theorem dX10_enrols_97 : decode cX10_enrols 97 = .ok (.iconst 2, 1) := by decide +kernel
theorem dX10_enrols_98 : decode cX10_enrols 98 = .ok (.invokevirtual 365, 3) := by decide +kernel
theorem dX10_enrols_101 : decode cX10_enrols 101 = .ok (.l2i, 1) := by decide +kernel
theorem dX10_enrols_102 : decode cX10_enrols 102 = .ok (.iastore, 1) := by decide +kernel
theorem dX10_enrols_103 : decode cX10_enrols 103 = .ok (.iconst 0, 1) := by decide +kernel
theorem dX10_enrols_104 : decode cX10_enrols 104 = .ok (.istore 4, 2) := by decide +kernel
theorem dX10_enrols_106 : decode cX10_enrols 106 = .ok (.iload 4, 2) := by decide +kernel
theorem dX10_enrols_108 : decode cX10_enrols 108 = .ok (.bipush 16, 2) := by decide +kernel
theorem dX10_enrols_110 : decode cX10_enrols 110 = .ok (.if_icmp .ge 32, 3) := by decide +kernel
theorem dX10_enrols_113 : decode cX10_enrols 113 = .ok (.aload_n 0, 1) := by decide +kernel
theorem dX10_enrols_114 : decode cX10_enrols 114 = .ok (.getfield 54, 3) := by decide +kernel
theorem dX10_enrols_117 : decode cX10_enrols 117 = .ok (.bipush 16, 2) := by decide +kernel
theorem dX10_enrols_119 : decode cX10_enrols 119 = .ok (.iload_n 2, 1) := by decide +kernel
theorem dX10_enrols_120 : decode cX10_enrols 120 = .ok (.imul, 1) := by decide +kernel
theorem dX10_enrols_121 : decode cX10_enrols 121 = .ok (.iload 4, 2) := by decide +kernel
theorem dX10_enrols_123 : decode cX10_enrols 123 = .ok (.iadd, 1) := by decide +kernel
theorem dX10_enrols_124 : decode cX10_enrols 124 = .ok (.aload_n 0, 1) := by decide +kernel
theorem dX10_enrols_125 : decode cX10_enrols 125 = .ok (.getfield 57, 3) := by decide +kernel
theorem dX10_enrols_128 : decode cX10_enrols 128 = .ok (.iload_n 3, 1) := by decide +kernel
theorem dX10_enrols_129 : decode cX10_enrols 129 = .ok (.iconst 2, 1) := by decide +kernel
theorem dX10_enrols_130 : decode cX10_enrols 130 = .ok (.iadd, 1) := by decide +kernel
theorem dX10_enrols_131 : decode cX10_enrols 131 = .ok (.iload 4, 2) := by decide +kernel
theorem dX10_enrols_133 : decode cX10_enrols 133 = .ok (.iadd, 1) := by decide +kernel
theorem dX10_enrols_134 : decode cX10_enrols 134 = .ok (.baload, 1) := by decide +kernel
theorem dX10_enrols_135 : decode cX10_enrols 135 = .ok (.bastore, 1) := by decide +kernel
theorem dX10_enrols_136 : decode cX10_enrols 136 = .ok (.iinc 4 1, 3) := by decide +kernel
theorem dX10_enrols_139 : decode cX10_enrols 139 = .ok (.goto (-33), 3) := by decide +kernel
theorem dX10_enrols_142 : decode cX10_enrols 142 = .ok (.iinc 2 1, 3) := by decide +kernel
theorem dX10_enrols_145 : decode cX10_enrols 145 = .ok (.goto (-81), 3) := by decide +kernel
theorem dX10_enrols_148 : decode cX10_enrols 148 = .ok (.aload_n 0, 1) := by decide +kernel
theorem dX10_enrols_149 : decode cX10_enrols 149 = .ok (.iconst 2, 1) := by decide +kernel
theorem dX10_enrols_150 : decode cX10_enrols 150 = .ok (.iconst 1, 1) := by decide +kernel
theorem dX10_enrols_151 : decode cX10_enrols 151 = .ok (.invokevirtual 325, 3) := by decide +kernel
theorem dX10_enrols_154 : decode cX10_enrols 154 = .ok (.aload_n 0, 1) := by decide +kernel
theorem dX10_enrols_155 : decode cX10_enrols 155 = .ok (.iconst 1, 1) := by decide +kernel
theorem dX10_enrols_156 : decode cX10_enrols 156 = .ok (.putfield 271, 3) := by decide +kernel
theorem dX10_enrols_159 : decode cX10_enrols 159 = .ok (.return_, 1) := by decide +kernel
theorem dX10_widthOf_0 : decode cX10_widthOf 0 = .ok (.iload_n 0, 1) := by decide +kernel
theorem dX10_widthOf_1 : decode cX10_widthOf 1 = .ok (.iconst 5, 1) := by decide +kernel
theorem dX10_widthOf_2 : decode cX10_widthOf 2 = .ok (.if_icmp .eq 9, 3) := by decide +kernel
theorem dX10_widthOf_5 : decode cX10_widthOf 5 = .ok (.iload_n 0, 1) := by decide +kernel
theorem dX10_widthOf_6 : decode cX10_widthOf 6 = .ok (.bipush 6, 2) := by decide +kernel
theorem dX10_widthOf_8 : decode cX10_widthOf 8 = .ok (.if_icmp .ne 7, 3) := by decide +kernel
theorem dX10_widthOf_11 : decode cX10_widthOf 11 = .ok (.iconst 1, 1) := by decide +kernel
theorem dX10_widthOf_12 : decode cX10_widthOf 12 = .ok (.goto 4, 3) := by decide +kernel
theorem dX10_widthOf_15 : decode cX10_widthOf 15 = .ok (.iconst 2, 1) := by decide +kernel
theorem dX10_widthOf_16 : decode cX10_widthOf 16 = .ok (.ireturn, 1) := by decide +kernel
theorem dX10_isSettings_0 : decode cX10_isSettings 0 = .ok (.aload_n 0, 1) := by decide +kernel
theorem dX10_isSettings_1 : decode cX10_isSettings 1 = .ok (.getfield 79, 3) := by decide +kernel
theorem dX10_isSettings_4 : decode cX10_isSettings 4 = .ok (.bipush 17, 2) := by decide +kernel
theorem dX10_isSettings_6 : decode cX10_isSettings 6 = .ok (.if_icmp .ne 14, 3) := by decide +kernel
theorem dX10_isSettings_9 : decode cX10_isSettings 9 = .ok (.aload_n 0, 1) := by decide +kernel
theorem dX10_isSettings_10 : decode cX10_isSettings 10 = .ok (.getfield 57, 3) := by decide +kernel
theorem dX10_isSettings_13 : decode cX10_isSettings 13 = .ok (.iconst 0, 1) := by decide +kernel
theorem dX10_isSettings_14 : decode cX10_isSettings 14 = .ok (.baload, 1) := by decide +kernel
theorem dX10_isSettings_15 : decode cX10_isSettings 15 = .ok (.bipush 83, 2) := by decide +kernel
theorem dX10_isSettings_17 : decode cX10_isSettings 17 = .ok (.if_icmp .eq 5, 3) := by decide +kernel
theorem dX10_isSettings_20 : decode cX10_isSettings 20 = .ok (.iconst 0, 1) := by decide +kernel
theorem dX10_isSettings_21 : decode cX10_isSettings 21 = .ok (.ireturn, 1) := by decide +kernel
theorem dX10_isSettings_22 : decode cX10_isSettings 22 = .ok (.iconst 1, 1) := by decide +kernel
theorem dX10_isSettings_23 : decode cX10_isSettings 23 = .ok (.istore_n 1, 1) := by decide +kernel
theorem dX10_isSettings_24 : decode cX10_isSettings 24 = .ok (.iconst 1, 1) := by decide +kernel
theorem dX10_isSettings_25 : decode cX10_isSettings 25 = .ok (.istore_n 2, 1) := by decide +kernel
theorem dX10_isSettings_26 : decode cX10_isSettings 26 = .ok (.iconst 0, 1) := by decide +kernel
theorem dX10_isSettings_27 : decode cX10_isSettings 27 = .ok (.istore_n 3, 1) := by decide +kernel
theorem dX10_isSettings_28 : decode cX10_isSettings 28 = .ok (.iload_n 3, 1) := by decide +kernel
theorem dX10_isSettings_29 : decode cX10_isSettings 29 = .ok (.bipush 9, 2) := by decide +kernel
theorem dX10_isSettings_31 : decode cX10_isSettings 31 = .ok (.if_icmp .ge 105, 3) := by decide +kernel
theorem dX10_isSettings_34 : decode cX10_isSettings 34 = .ok (.aload_n 0, 1) := by decide +kernel
theorem dX10_isSettings_35 : decode cX10_isSettings 35 = .ok (.iload_n 2, 1) := by decide +kernel
theorem dX10_isSettings_36 : decode cX10_isSettings 36 = .ok (.iload_n 3, 1) := by decide +kernel
theorem dX10_isSettings_37 : decode cX10_isSettings 37 = .ok (.invokestatic 372, 3) := by decide +kernel
theorem dX10_isSettings_40 : decode cX10_isSettings 40 = .ok (.invokevirtual 365, 3) := by decide +kernel
theorem dX10_isSettings_43 : decode cX10_isSettings 43 = .ok (.lstore 4, 2) := by decide +kernel
theorem dX10_isSettings_45 : decode cX10_isSettings 45 = .ok (.iload_n 2, 1) := by decide +kernel
theorem dX10_isSettings_46 : decode cX10_isSettings 46 = .ok (.iload_n 3, 1) := by decide +kernel
theorem dX10_isSettings_47 : decode cX10_isSettings 47 = .ok (.invokestatic 372, 3) := by decide +kernel
theorem dX10_isSettings_50 : decode cX10_isSettings 50 = .ok (.iadd, 1) := by decide +kernel
theorem dX10_isSettings_51 : decode cX10_isSettings 51 = .ok (.istore_n 2, 1) := by decide +kernel
theorem dX10_isSettings_52 : decode cX10_isSettings 52 = .ok (.iload_n 1, 1) := by decide +kernel
theorem dX10_isSettings_53 : decode cX10_isSettings 53 = .ok (.ifCond .eq 75, 3) := by decide +kernel
theorem dX10_isSettings_56 : decode cX10_isSettings 56 = .ok (.iload_n 3, 1) := by decide +kernel
theorem dX10_isSettings_57 : decode cX10_isSettings 57 = .ok (.iconst 4, 1) := by decide +kernel
theorem dX10_isSettings_58 : decode cX10_isSettings 58 = .ok (.if_icmp .gt 22, 3) := by decide +kernel
theorem dX10_isSettings_61 : decode cX10_isSettings 61 = .ok (.lload 4, 2) := by decide +kernel
theorem dX10_isSettings_63 : decode cX10_isSettings 63 = .ok (.lconst 1, 1) := by decide +kernel
theorem dX10_isSettings_64 : decode cX10_isSettings 64 = .ok (.lcmp, 1) := by decide +kernel
theorem dX10_isSettings_65 : decode cX10_isSettings 65 = .ok (.ifCond .lt 63, 3) := by decide +kernel
theorem dX10_isSettings_68 : decode cX10_isSettings 68 = .ok (.lload 4, 2) := by decide +kernel
theorem dX10_isSettings_70 : decode cX10_isSettings 70 = .ok (.ldc2_w 375, 3) := by decide +kernel
theorem dX10_isSettings_73 : decode cX10_isSettings 73 = .ok (.lcmp, 1) := by decide +kernel
theorem dX10_isSettings_74 : decode cX10_isSettings 74 = .ok (.ifCond .gt 54, 3) := by decide +kernel
theorem dX10_isSettings_77 : decode cX10_isSettings 77 = .ok (.goto 47, 3) := by decide +kernel
theorem dX10_isSettings_80 : decode cX10_isSettings 80 = .ok (.iload_n 3, 1) := by decide +kernel
theorem dX10_isSettings_81 : decode cX10_isSettings 81 = .ok (.iconst 5, 1) := by decide +kernel
theorem dX10_isSettings_82 : decode cX10_isSettings 82 = .ok (.if_icmp .ne 15, 3) := by decide +kernel
theorem dX10_isSettings_85 : decode cX10_isSettings 85 = .ok (.lload 4, 2) := by decide +kernel
theorem dX10_isSettings_87 : decode cX10_isSettings 87 = .ok (.ldc2_w 176, 3) := by decide +kernel
theorem dX10_isSettings_90 : decode cX10_isSettings 90 = .ok (.lcmp, 1) := by decide +kernel
theorem dX10_isSettings_91 : decode cX10_isSettings 91 = .ok (.ifCond .gt 37, 3) := by decide +kernel
theorem dX10_isSettings_94 : decode cX10_isSettings 94 = .ok (.goto 30, 3) := by decide +kernel
theorem dX10_isSettings_97 : decode cX10_isSettings 97 = .ok (.iload_n 3, 1) := by decide +kernel
theorem dX10_isSettings_98 : decode cX10_isSettings 98 = .ok (.bipush 6, 2) := by decide +kernel
theorem dX10_isSettings_100 : decode cX10_isSettings 100 = .ok (.if_icmp .ne 15, 3) := by decide +kernel
theorem dX10_isSettings_103 : decode cX10_isSettings 103 = .ok (.lload 4, 2) := by decide +kernel
theorem dX10_isSettings_105 : decode cX10_isSettings 105 = .ok (.ldc2_w 377, 3) := by decide +kernel
theorem dX10_isSettings_108 : decode cX10_isSettings 108 = .ok (.lcmp, 1) := by decide +kernel
theorem dX10_isSettings_109 : decode cX10_isSettings 109 = .ok (.ifCond .gt 19, 3) := by decide +kernel
theorem dX10_isSettings_112 : decode cX10_isSettings 112 = .ok (.goto 12, 3) := by decide +kernel
theorem dX10_isSettings_115 : decode cX10_isSettings 115 = .ok (.lload 4, 2) := by decide +kernel
theorem dX10_isSettings_117 : decode cX10_isSettings 117 = .ok (.ldc2_w 379, 3) := by decide +kernel
theorem dX10_isSettings_120 : decode cX10_isSettings 120 = .ok (.lcmp, 1) := by decide +kernel
theorem dX10_isSettings_121 : decode cX10_isSettings 121 = .ok (.ifCond .gt 7, 3) := by decide +kernel
theorem dX10_isSettings_124 : decode cX10_isSettings 124 = .ok (.iconst 1, 1) := by decide +kernel
theorem dX10_isSettings_125 : decode cX10_isSettings 125 = .ok (.goto 4, 3) := by decide +kernel
theorem dX10_isSettings_128 : decode cX10_isSettings 128 = .ok (.iconst 0, 1) := by decide +kernel
theorem dX10_isSettings_129 : decode cX10_isSettings 129 = .ok (.istore_n 1, 1) := by decide +kernel
theorem dX10_isSettings_130 : decode cX10_isSettings 130 = .ok (.iinc 3 1, 3) := by decide +kernel
theorem dX10_isSettings_133 : decode cX10_isSettings 133 = .ok (.goto (-105), 3) := by decide +kernel
theorem dX10_isSettings_136 : decode cX10_isSettings 136 = .ok (.iload_n 1, 1) := by decide +kernel
theorem dX10_isSettings_137 : decode cX10_isSettings 137 = .ok (.ireturn, 1) := by decide +kernel
theorem dX10_takeSettings_0 : decode cX10_takeSettings 0 = .ok (.iconst 1, 1) := by decide +kernel
theorem dX10_takeSettings_1 : decode cX10_takeSettings 1 = .ok (.istore_n 1, 1) := by decide +kernel
theorem dX10_takeSettings_2 : decode cX10_takeSettings 2 = .ok (.iconst 0, 1) := by decide +kernel
theorem dX10_takeSettings_3 : decode cX10_takeSettings 3 = .ok (.istore_n 2, 1) := by decide +kernel
theorem dX10_takeSettings_4 : decode cX10_takeSettings 4 = .ok (.iload_n 2, 1) := by decide +kernel
theorem dX10_takeSettings_5 : decode cX10_takeSettings 5 = .ok (.bipush 9, 2) := by decide +kernel
theorem dX10_takeSettings_7 : decode cX10_takeSettings 7 = .ok (.if_icmp .ge 32, 3) := by decide +kernel
theorem dX10_takeSettings_10 : decode cX10_takeSettings 10 = .ok (.aload_n 0, 1) := by decide +kernel
theorem dX10_takeSettings_11 : decode cX10_takeSettings 11 = .ok (.getfield 63, 3) := by decide +kernel
theorem dX10_takeSettings_14 : decode cX10_takeSettings 14 = .ok (.iload_n 2, 1) := by decide +kernel
theorem dX10_takeSettings_15 : decode cX10_takeSettings 15 = .ok (.aload_n 0, 1) := by decide +kernel
theorem dX10_takeSettings_16 : decode cX10_takeSettings 16 = .ok (.iload_n 1, 1) := by decide +kernel
theorem dX10_takeSettings_17 : decode cX10_takeSettings 17 = .ok (.iload_n 2, 1) := by decide +kernel
theorem dX10_takeSettings_18 : decode cX10_takeSettings 18 = .ok (.invokestatic 372, 3) := by decide +kernel
theorem dX10_takeSettings_21 : decode cX10_takeSettings 21 = .ok (.invokevirtual 365, 3) := by decide +kernel
theorem dX10_takeSettings_24 : decode cX10_takeSettings 24 = .ok (.l2i, 1) := by decide +kernel
theorem dX10_takeSettings_25 : decode cX10_takeSettings 25 = .ok (.iastore, 1) := by decide +kernel
theorem dX10_takeSettings_26 : decode cX10_takeSettings 26 = .ok (.iload_n 1, 1) := by decide +kernel
theorem dX10_takeSettings_27 : decode cX10_takeSettings 27 = .ok (.iload_n 2, 1) := by decide +kernel
theorem dX10_takeSettings_28 : decode cX10_takeSettings 28 = .ok (.invokestatic 372, 3) := by decide +kernel
theorem dX10_takeSettings_31 : decode cX10_takeSettings 31 = .ok (.iadd, 1) := by decide +kernel
theorem dX10_takeSettings_32 : decode cX10_takeSettings 32 = .ok (.istore_n 1, 1) := by decide +kernel
theorem dX10_takeSettings_33 : decode cX10_takeSettings 33 = .ok (.iinc 2 1, 3) := by decide +kernel
theorem dX10_takeSettings_36 : decode cX10_takeSettings 36 = .ok (.goto (-32), 3) := by decide +kernel
theorem dX10_takeSettings_39 : decode cX10_takeSettings 39 = .ok (.return_, 1) := by decide +kernel
theorem dX10_show_0 : decode cX10_show 0 = .ok (.iload_n 1, 1) := by decide +kernel
theorem dX10_show_1 : decode cX10_show 1 = .ok (.tableswitch 168 0 13 #[71, 84, 97, 110, 115, 120, 125, 130, 135, 141, 146, 152, 158, 163], 71) := by decide +kernel
theorem dX10_show_72 : decode cX10_show 72 = .ok (.aload_n 0, 1) := by decide +kernel
theorem dX10_show_73 : decode cX10_show 73 = .ok (.getfield 256, 3) := by decide +kernel
theorem dX10_show_76 : decode cX10_show 76 = .ok (.ifCond .eq 7, 3) := by decide +kernel
theorem dX10_show_79 : decode cX10_show 79 = .ok (.iconst 1, 1) := by decide +kernel
theorem dX10_show_80 : decode cX10_show 80 = .ok (.goto 4, 3) := by decide +kernel
theorem dX10_show_83 : decode cX10_show 83 = .ok (.iconst 0, 1) := by decide +kernel
theorem dX10_show_84 : decode cX10_show 84 = .ok (.ireturn, 1) := by decide +kernel
theorem dX10_show_85 : decode cX10_show 85 = .ok (.aload_n 0, 1) := by decide +kernel
theorem dX10_show_86 : decode cX10_show 86 = .ok (.getfield 268, 3) := by decide +kernel
theorem dX10_show_89 : decode cX10_show 89 = .ok (.ifCond .eq 7, 3) := by decide +kernel
theorem dX10_show_92 : decode cX10_show 92 = .ok (.iconst 1, 1) := by decide +kernel
theorem dX10_show_93 : decode cX10_show 93 = .ok (.goto 4, 3) := by decide +kernel
theorem dX10_show_96 : decode cX10_show 96 = .ok (.iconst 0, 1) := by decide +kernel
theorem dX10_show_97 : decode cX10_show 97 = .ok (.ireturn, 1) := by decide +kernel
theorem dX10_show_98 : decode cX10_show 98 = .ok (.aload_n 0, 1) := by decide +kernel
theorem dX10_show_99 : decode cX10_show 99 = .ok (.getfield 221, 3) := by decide +kernel
theorem dX10_show_102 : decode cX10_show 102 = .ok (.ifCond .eq 7, 3) := by decide +kernel
theorem dX10_show_105 : decode cX10_show 105 = .ok (.iconst 1, 1) := by decide +kernel
theorem dX10_show_106 : decode cX10_show 106 = .ok (.goto 4, 3) := by decide +kernel
theorem dX10_show_109 : decode cX10_show 109 = .ok (.iconst 0, 1) := by decide +kernel
theorem dX10_show_110 : decode cX10_show 110 = .ok (.ireturn, 1) := by decide +kernel
theorem dX10_show_111 : decode cX10_show 111 = .ok (.aload_n 0, 1) := by decide +kernel
theorem dX10_show_112 : decode cX10_show 112 = .ok (.getfield 271, 3) := by decide +kernel
theorem dX10_show_115 : decode cX10_show 115 = .ok (.ireturn, 1) := by decide +kernel
theorem dX10_show_116 : decode cX10_show 116 = .ok (.aload_n 0, 1) := by decide +kernel
theorem dX10_show_117 : decode cX10_show 117 = .ok (.getfield 82, 3) := by decide +kernel
theorem dX10_show_120 : decode cX10_show 120 = .ok (.ireturn, 1) := by decide +kernel
theorem dX10_show_121 : decode cX10_show 121 = .ok (.aload_n 0, 1) := by decide +kernel
theorem dX10_show_122 : decode cX10_show 122 = .ok (.getfield 246, 3) := by decide +kernel
theorem dX10_show_125 : decode cX10_show 125 = .ok (.ireturn, 1) := by decide +kernel
theorem dX10_show_126 : decode cX10_show 126 = .ok (.aload_n 0, 1) := by decide +kernel
theorem dX10_show_127 : decode cX10_show 127 = .ok (.getfield 227, 3) := by decide +kernel
theorem dX10_show_130 : decode cX10_show 130 = .ok (.ireturn, 1) := by decide +kernel
theorem dX10_show_131 : decode cX10_show 131 = .ok (.aload_n 0, 1) := by decide +kernel
theorem dX10_show_132 : decode cX10_show 132 = .ok (.getfield 85, 3) := by decide +kernel
theorem dX10_show_135 : decode cX10_show 135 = .ok (.ireturn, 1) := by decide +kernel
theorem dX10_show_136 : decode cX10_show 136 = .ok (.aload_n 0, 1) := by decide +kernel
theorem dX10_show_137 : decode cX10_show 137 = .ok (.getfield 182, 3) := by decide +kernel
theorem dX10_show_140 : decode cX10_show 140 = .ok (.l2i, 1) := by decide +kernel
theorem dX10_show_141 : decode cX10_show 141 = .ok (.ireturn, 1) := by decide +kernel
theorem dX10_show_142 : decode cX10_show 142 = .ok (.aload_n 0, 1) := by decide +kernel
theorem dX10_show_143 : decode cX10_show 143 = .ok (.getfield 202, 3) := by decide +kernel
theorem dX10_show_146 : decode cX10_show 146 = .ok (.ireturn, 1) := by decide +kernel
theorem dX10_show_147 : decode cX10_show 147 = .ok (.aload_n 0, 1) := by decide +kernel
theorem dX10_show_148 : decode cX10_show 148 = .ok (.getfield 100, 3) := by decide +kernel
theorem dX10_show_151 : decode cX10_show 151 = .ok (.l2i, 1) := by decide +kernel
theorem dX10_show_152 : decode cX10_show 152 = .ok (.ireturn, 1) := by decide +kernel
theorem dX10_show_153 : decode cX10_show 153 = .ok (.aload_n 0, 1) := by decide +kernel
theorem dX10_show_154 : decode cX10_show 154 = .ok (.getfield 104, 3) := by decide +kernel
theorem dX10_show_157 : decode cX10_show 157 = .ok (.l2i, 1) := by decide +kernel
theorem dX10_show_158 : decode cX10_show 158 = .ok (.ireturn, 1) := by decide +kernel
theorem dX10_show_159 : decode cX10_show 159 = .ok (.aload_n 0, 1) := by decide +kernel
theorem dX10_show_160 : decode cX10_show 160 = .ok (.getfield 88, 3) := by decide +kernel
theorem dX10_show_163 : decode cX10_show 163 = .ok (.ireturn, 1) := by decide +kernel
theorem dX10_show_164 : decode cX10_show 164 = .ok (.aload_n 0, 1) := by decide +kernel
theorem dX10_show_165 : decode cX10_show 165 = .ok (.getfield 163, 3) := by decide +kernel
theorem dX10_show_168 : decode cX10_show 168 = .ok (.ireturn, 1) := by decide +kernel
theorem dX10_show_169 : decode cX10_show 169 = .ok (.iload_n 1, 1) := by decide +kernel
theorem dX10_show_170 : decode cX10_show 170 = .ok (.bipush 14, 2) := by decide +kernel
theorem dX10_show_172 : decode cX10_show 172 = .ok (.if_icmp .lt 21, 3) := by decide +kernel
theorem dX10_show_175 : decode cX10_show 175 = .ok (.iload_n 1, 1) := by decide +kernel
theorem dX10_show_176 : decode cX10_show 176 = .ok (.bipush 22, 2) := by decide +kernel
theorem dX10_show_178 : decode cX10_show 178 = .ok (.if_icmp .gt 15, 3) := by decide +kernel
theorem dX10_show_181 : decode cX10_show 181 = .ok (.aload_n 0, 1) := by decide +kernel
theorem dX10_show_182 : decode cX10_show 182 = .ok (.getfield 63, 3) := by decide +kernel
theorem dX10_show_185 : decode cX10_show 185 = .ok (.iload_n 1, 1) := by decide +kernel
theorem dX10_show_186 : decode cX10_show 186 = .ok (.bipush 14, 2) := by decide +kernel
theorem dX10_show_188 : decode cX10_show 188 = .ok (.isub, 1) := by decide +kernel
theorem dX10_show_189 : decode cX10_show 189 = .ok (.iaload, 1) := by decide +kernel
theorem dX10_show_190 : decode cX10_show 190 = .ok (.goto 4, 3) := by decide +kernel
theorem dX10_show_193 : decode cX10_show 193 = .ok (.iconst (-1), 1) := by decide +kernel
theorem dX10_show_194 : decode cX10_show 194 = .ok (.ireturn, 1) := by decide +kernel
theorem dJ6_bitCount_0f7a4_0 : decode cJ6_bitCount_0f7a4 0 = .ok (.iload_n 0, 1) := by decide +kernel
theorem dJ6_bitCount_0f7a4_1 : decode cJ6_bitCount_0f7a4 1 = .ok (.iload_n 0, 1) := by decide +kernel
theorem dJ6_bitCount_0f7a4_2 : decode cJ6_bitCount_0f7a4 2 = .ok (.iconst 1, 1) := by decide +kernel
theorem dJ6_bitCount_0f7a4_3 : decode cJ6_bitCount_0f7a4 3 = .ok (.iushr, 1) := by decide +kernel
theorem dJ6_bitCount_0f7a4_4 : decode cJ6_bitCount_0f7a4 4 = .ok (.ldc_w 265, 3) := by decide +kernel
theorem dJ6_bitCount_0f7a4_7 : decode cJ6_bitCount_0f7a4 7 = .ok (.iand, 1) := by decide +kernel
theorem dJ6_bitCount_0f7a4_8 : decode cJ6_bitCount_0f7a4 8 = .ok (.isub, 1) := by decide +kernel
theorem dJ6_bitCount_0f7a4_9 : decode cJ6_bitCount_0f7a4 9 = .ok (.istore_n 0, 1) := by decide +kernel
theorem dJ6_bitCount_0f7a4_10 : decode cJ6_bitCount_0f7a4 10 = .ok (.iload_n 0, 1) := by decide +kernel
theorem dJ6_bitCount_0f7a4_11 : decode cJ6_bitCount_0f7a4 11 = .ok (.ldc_w 266, 3) := by decide +kernel
theorem dJ6_bitCount_0f7a4_14 : decode cJ6_bitCount_0f7a4 14 = .ok (.iand, 1) := by decide +kernel
theorem dJ6_bitCount_0f7a4_15 : decode cJ6_bitCount_0f7a4 15 = .ok (.iload_n 0, 1) := by decide +kernel
theorem dJ6_bitCount_0f7a4_16 : decode cJ6_bitCount_0f7a4 16 = .ok (.iconst 2, 1) := by decide +kernel
theorem dJ6_bitCount_0f7a4_17 : decode cJ6_bitCount_0f7a4 17 = .ok (.iushr, 1) := by decide +kernel
theorem dJ6_bitCount_0f7a4_18 : decode cJ6_bitCount_0f7a4 18 = .ok (.ldc_w 266, 3) := by decide +kernel
theorem dJ6_bitCount_0f7a4_21 : decode cJ6_bitCount_0f7a4 21 = .ok (.iand, 1) := by decide +kernel
theorem dJ6_bitCount_0f7a4_22 : decode cJ6_bitCount_0f7a4 22 = .ok (.iadd, 1) := by decide +kernel
theorem dJ6_bitCount_0f7a4_23 : decode cJ6_bitCount_0f7a4 23 = .ok (.istore_n 0, 1) := by decide +kernel
theorem dJ6_bitCount_0f7a4_24 : decode cJ6_bitCount_0f7a4 24 = .ok (.iload_n 0, 1) := by decide +kernel
theorem dJ6_bitCount_0f7a4_25 : decode cJ6_bitCount_0f7a4 25 = .ok (.iload_n 0, 1) := by decide +kernel
theorem dJ6_bitCount_0f7a4_26 : decode cJ6_bitCount_0f7a4 26 = .ok (.iconst 4, 1) := by decide +kernel
theorem dJ6_bitCount_0f7a4_27 : decode cJ6_bitCount_0f7a4 27 = .ok (.iushr, 1) := by decide +kernel
theorem dJ6_bitCount_0f7a4_28 : decode cJ6_bitCount_0f7a4 28 = .ok (.iadd, 1) := by decide +kernel
theorem dJ6_bitCount_0f7a4_29 : decode cJ6_bitCount_0f7a4 29 = .ok (.ldc_w 267, 3) := by decide +kernel
theorem dJ6_bitCount_0f7a4_32 : decode cJ6_bitCount_0f7a4 32 = .ok (.iand, 1) := by decide +kernel
theorem dJ6_bitCount_0f7a4_33 : decode cJ6_bitCount_0f7a4 33 = .ok (.istore_n 0, 1) := by decide +kernel
theorem dJ6_bitCount_0f7a4_34 : decode cJ6_bitCount_0f7a4 34 = .ok (.iload_n 0, 1) := by decide +kernel
theorem dJ6_bitCount_0f7a4_35 : decode cJ6_bitCount_0f7a4 35 = .ok (.iload_n 0, 1) := by decide +kernel
theorem dJ6_bitCount_0f7a4_36 : decode cJ6_bitCount_0f7a4 36 = .ok (.bipush 8, 2) := by decide +kernel
theorem dJ6_bitCount_0f7a4_38 : decode cJ6_bitCount_0f7a4 38 = .ok (.iushr, 1) := by decide +kernel
theorem dJ6_bitCount_0f7a4_39 : decode cJ6_bitCount_0f7a4 39 = .ok (.iadd, 1) := by decide +kernel
theorem dJ6_bitCount_0f7a4_40 : decode cJ6_bitCount_0f7a4 40 = .ok (.istore_n 0, 1) := by decide +kernel
theorem dJ6_bitCount_0f7a4_41 : decode cJ6_bitCount_0f7a4 41 = .ok (.iload_n 0, 1) := by decide +kernel
theorem dJ6_bitCount_0f7a4_42 : decode cJ6_bitCount_0f7a4 42 = .ok (.iload_n 0, 1) := by decide +kernel
theorem dJ6_bitCount_0f7a4_43 : decode cJ6_bitCount_0f7a4 43 = .ok (.bipush 16, 2) := by decide +kernel
theorem dJ6_bitCount_0f7a4_45 : decode cJ6_bitCount_0f7a4 45 = .ok (.iushr, 1) := by decide +kernel
theorem dJ6_bitCount_0f7a4_46 : decode cJ6_bitCount_0f7a4 46 = .ok (.iadd, 1) := by decide +kernel
theorem dJ6_bitCount_0f7a4_47 : decode cJ6_bitCount_0f7a4 47 = .ok (.istore_n 0, 1) := by decide +kernel
theorem dJ6_bitCount_0f7a4_48 : decode cJ6_bitCount_0f7a4 48 = .ok (.iload_n 0, 1) := by decide +kernel
theorem dJ6_bitCount_0f7a4_49 : decode cJ6_bitCount_0f7a4 49 = .ok (.bipush 63, 2) := by decide +kernel
theorem dJ6_bitCount_0f7a4_51 : decode cJ6_bitCount_0f7a4 51 = .ok (.iand, 1) := by decide +kernel
theorem dJ6_bitCount_0f7a4_52 : decode cJ6_bitCount_0f7a4 52 = .ok (.ireturn, 1) := by decide +kernel
theorem dJ9_max_7cf53_0 : decode cJ9_max_7cf53 0 = .ok (.iload_n 0, 1) := by decide +kernel
theorem dJ9_max_7cf53_1 : decode cJ9_max_7cf53 1 = .ok (.iload_n 1, 1) := by decide +kernel
theorem dJ9_max_7cf53_2 : decode cJ9_max_7cf53 2 = .ok (.if_icmp .lt 7, 3) := by decide +kernel
theorem dJ9_max_7cf53_5 : decode cJ9_max_7cf53 5 = .ok (.iload_n 0, 1) := by decide +kernel
theorem dJ9_max_7cf53_6 : decode cJ9_max_7cf53 6 = .ok (.goto 4, 3) := by decide +kernel
theorem dJ9_max_7cf53_9 : decode cJ9_max_7cf53 9 = .ok (.iload_n 1, 1) := by decide +kernel
theorem dJ9_max_7cf53_10 : decode cJ9_max_7cf53 10 = .ok (.ireturn, 1) := by decide +kernel
theorem dJ9_min_7cf53_0 : decode cJ9_min_7cf53 0 = .ok (.iload_n 0, 1) := by decide +kernel
theorem dJ9_min_7cf53_1 : decode cJ9_min_7cf53 1 = .ok (.iload_n 1, 1) := by decide +kernel
theorem dJ9_min_7cf53_2 : decode cJ9_min_7cf53 2 = .ok (.if_icmp .gt 7, 3) := by decide +kernel
theorem dJ9_min_7cf53_5 : decode cJ9_min_7cf53 5 = .ok (.iload_n 0, 1) := by decide +kernel
theorem dJ9_min_7cf53_6 : decode cJ9_min_7cf53 6 = .ok (.goto 4, 3) := by decide +kernel
theorem dJ9_min_7cf53_9 : decode cJ9_min_7cf53 9 = .ok (.iload_n 1, 1) := by decide +kernel
theorem dJ9_min_7cf53_10 : decode cJ9_min_7cf53 10 = .ok (.ireturn, 1) := by decide +kernel
theorem dL_law_0 : decode cL_law 0 = .ok (.new 7, 3) := by decide +kernel
theorem dL_law_3 : decode cL_law 3 = .ok (.dup, 1) := by decide +kernel
theorem dL_law_4 : decode cL_law 4 = .ok (.invokespecial 9, 3) := by decide +kernel
theorem dL_law_7 : decode cL_law 7 = .ok (.astore_n 1, 1) := by decide +kernel
theorem dL_law_8 : decode cL_law 8 = .ok (.new 10, 3) := by decide +kernel
theorem dL_law_11 : decode cL_law 11 = .ok (.dup, 1) := by decide +kernel
theorem dL_law_12 : decode cL_law 12 = .ok (.invokespecial 12, 3) := by decide +kernel
theorem dL_law_15 : decode cL_law 15 = .ok (.astore_n 2, 1) := by decide +kernel
theorem dL_law_16 : decode cL_law 16 = .ok (.iconst 0, 1) := by decide +kernel
theorem dL_law_17 : decode cL_law 17 = .ok (.istore_n 3, 1) := by decide +kernel
theorem dL_law_18 : decode cL_law 18 = .ok (.iload_n 3, 1) := by decide +kernel
theorem dL_law_19 : decode cL_law 19 = .ok (.aload_n 0, 1) := by decide +kernel
theorem dL_law_20 : decode cL_law 20 = .ok (.arraylength, 1) := by decide +kernel
theorem dL_law_21 : decode cL_law 21 = .ok (.bipush 6, 2) := by decide +kernel
theorem dL_law_23 : decode cL_law 23 = .ok (.isub, 1) := by decide +kernel
theorem dL_law_24 : decode cL_law 24 = .ok (.if_icmp .gt 683, 3) := by decide +kernel
theorem dL_law_27 : decode cL_law 27 = .ok (.aload_n 0, 1) := by decide +kernel
theorem dL_law_28 : decode cL_law 28 = .ok (.iload_n 3, 1) := by decide +kernel
theorem dL_law_29 : decode cL_law 29 = .ok (.iaload, 1) := by decide +kernel
theorem dL_law_30 : decode cL_law 30 = .ok (.bipush 31, 2) := by decide +kernel
theorem dL_law_32 : decode cL_law 32 = .ok (.iand, 1) := by decide +kernel
theorem dL_law_33 : decode cL_law 33 = .ok (.tableswitch 668 0 18 #[91, 154, 177, 230, 263, 312, 345, 368, 405, 418, 431, 454, 477, 500, 513, 536, 569, 602, 645], 91) := by decide +kernel
theorem dL_law_124 : decode cL_law 124 = .ok (.aload_n 1, 1) := by decide +kernel
theorem dL_law_125 : decode cL_law 125 = .ok (.aload_n 0, 1) := by decide +kernel
theorem dL_law_126 : decode cL_law 126 = .ok (.iload_n 3, 1) := by decide +kernel
theorem dL_law_127 : decode cL_law 127 = .ok (.iconst 1, 1) := by decide +kernel
theorem dL_law_128 : decode cL_law 128 = .ok (.iadd, 1) := by decide +kernel
theorem dL_law_129 : decode cL_law 129 = .ok (.iaload, 1) := by decide +kernel
theorem dL_law_130 : decode cL_law 130 = .ok (.aload_n 0, 1) := by decide +kernel
theorem dL_law_131 : decode cL_law 131 = .ok (.iload_n 3, 1) := by decide +kernel
theorem dL_law_132 : decode cL_law 132 = .ok (.iconst 2, 1) := by decide +kernel
theorem dL_law_133 : decode cL_law 133 = .ok (.iadd, 1) := by decide +kernel
theorem dL_law_134 : decode cL_law 134 = .ok (.iaload, 1) := by decide +kernel
theorem dL_law_135 : decode cL_law 135 = .ok (.aload_n 0, 1) := by decide +kernel
theorem dL_law_136 : decode cL_law 136 = .ok (.iload_n 3, 1) := by decide +kernel
theorem dL_law_137 : decode cL_law 137 = .ok (.iconst 3, 1) := by decide +kernel
theorem dL_law_138 : decode cL_law 138 = .ok (.iadd, 1) := by decide +kernel
theorem dL_law_139 : decode cL_law 139 = .ok (.iaload, 1) := by decide +kernel
theorem dL_law_140 : decode cL_law 140 = .ok (.aload_n 0, 1) := by decide +kernel
theorem dL_law_141 : decode cL_law 141 = .ok (.iload_n 3, 1) := by decide +kernel
theorem dL_law_142 : decode cL_law 142 = .ok (.iconst 4, 1) := by decide +kernel
theorem dL_law_143 : decode cL_law 143 = .ok (.iadd, 1) := by decide +kernel
theorem dL_law_144 : decode cL_law 144 = .ok (.iaload, 1) := by decide +kernel
theorem dL_law_145 : decode cL_law 145 = .ok (.aload_n 0, 1) := by decide +kernel
theorem dL_law_146 : decode cL_law 146 = .ok (.iload_n 3, 1) := by decide +kernel
theorem dL_law_147 : decode cL_law 147 = .ok (.iconst 5, 1) := by decide +kernel
theorem dL_law_148 : decode cL_law 148 = .ok (.iadd, 1) := by decide +kernel
theorem dL_law_149 : decode cL_law 149 = .ok (.iaload, 1) := by decide +kernel
theorem dL_law_150 : decode cL_law 150 = .ok (.invokevirtual 13, 3) := by decide +kernel
theorem dL_law_153 : decode cL_law 153 = .ok (.aload_n 2, 1) := by decide +kernel
theorem dL_law_154 : decode cL_law 154 = .ok (.aload_n 0, 1) := by decide +kernel
theorem dL_law_155 : decode cL_law 155 = .ok (.iload_n 3, 1) := by decide +kernel
theorem dL_law_156 : decode cL_law 156 = .ok (.iconst 1, 1) := by decide +kernel
theorem dL_law_157 : decode cL_law 157 = .ok (.iadd, 1) := by decide +kernel
theorem dL_law_158 : decode cL_law 158 = .ok (.iaload, 1) := by decide +kernel
theorem dL_law_159 : decode cL_law 159 = .ok (.aload_n 0, 1) := by decide +kernel
theorem dL_law_160 : decode cL_law 160 = .ok (.iload_n 3, 1) := by decide +kernel
theorem dL_law_161 : decode cL_law 161 = .ok (.iconst 2, 1) := by decide +kernel
theorem dL_law_162 : decode cL_law 162 = .ok (.iadd, 1) := by decide +kernel
theorem dL_law_163 : decode cL_law 163 = .ok (.iaload, 1) := by decide +kernel
theorem dL_law_164 : decode cL_law 164 = .ok (.aload_n 0, 1) := by decide +kernel
theorem dL_law_165 : decode cL_law 165 = .ok (.iload_n 3, 1) := by decide +kernel
theorem dL_law_166 : decode cL_law 166 = .ok (.iconst 3, 1) := by decide +kernel
theorem dL_law_167 : decode cL_law 167 = .ok (.iadd, 1) := by decide +kernel
theorem dL_law_168 : decode cL_law 168 = .ok (.iaload, 1) := by decide +kernel
theorem dL_law_169 : decode cL_law 169 = .ok (.aload_n 0, 1) := by decide +kernel
theorem dL_law_170 : decode cL_law 170 = .ok (.iload_n 3, 1) := by decide +kernel
theorem dL_law_171 : decode cL_law 171 = .ok (.iconst 4, 1) := by decide +kernel
theorem dL_law_172 : decode cL_law 172 = .ok (.iadd, 1) := by decide +kernel
theorem dL_law_173 : decode cL_law 173 = .ok (.iaload, 1) := by decide +kernel
theorem dL_law_174 : decode cL_law 174 = .ok (.aload_n 0, 1) := by decide +kernel
theorem dL_law_175 : decode cL_law 175 = .ok (.iload_n 3, 1) := by decide +kernel
theorem dL_law_176 : decode cL_law 176 = .ok (.iconst 5, 1) := by decide +kernel
theorem dL_law_177 : decode cL_law 177 = .ok (.iadd, 1) := by decide +kernel
theorem dL_law_178 : decode cL_law 178 = .ok (.iaload, 1) := by decide +kernel
theorem dL_law_179 : decode cL_law 179 = .ok (.invokevirtual 17, 3) := by decide +kernel
theorem dL_law_182 : decode cL_law 182 = .ok (.if_icmp .eq 519, 3) := by decide +kernel
theorem dL_law_185 : decode cL_law 185 = .ok (.iconst 0, 1) := by decide +kernel
theorem dL_law_186 : decode cL_law 186 = .ok (.ireturn, 1) := by decide +kernel
theorem dL_law_187 : decode cL_law 187 = .ok (.aload_n 1, 1) := by decide +kernel
theorem dL_law_188 : decode cL_law 188 = .ok (.aload_n 0, 1) := by decide +kernel
theorem dL_law_189 : decode cL_law 189 = .ok (.iload_n 3, 1) := by decide +kernel
theorem dL_law_190 : decode cL_law 190 = .ok (.iconst 1, 1) := by decide +kernel
theorem dL_law_191 : decode cL_law 191 = .ok (.iadd, 1) := by decide +kernel
theorem dL_law_192 : decode cL_law 192 = .ok (.iaload, 1) := by decide +kernel
theorem dL_law_193 : decode cL_law 193 = .ok (.invokevirtual 18, 3) := by decide +kernel
theorem dL_law_196 : decode cL_law 196 = .ok (.aload_n 2, 1) := by decide +kernel
theorem dL_law_197 : decode cL_law 197 = .ok (.aload_n 0, 1) := by decide +kernel
theorem dL_law_198 : decode cL_law 198 = .ok (.iload_n 3, 1) := by decide +kernel
theorem dL_law_199 : decode cL_law 199 = .ok (.iconst 1, 1) := by decide +kernel
theorem dL_law_200 : decode cL_law 200 = .ok (.iadd, 1) := by decide +kernel
theorem dL_law_201 : decode cL_law 201 = .ok (.iaload, 1) := by decide +kernel
theorem dL_law_202 : decode cL_law 202 = .ok (.invokevirtual 22, 3) := by decide +kernel
theorem dL_law_205 : decode cL_law 205 = .ok (.if_icmp .eq 496, 3) := by decide +kernel
theorem dL_law_208 : decode cL_law 208 = .ok (.iconst 0, 1) := by decide +kernel
theorem dL_law_209 : decode cL_law 209 = .ok (.ireturn, 1) := by decide +kernel
theorem dL_law_210 : decode cL_law 210 = .ok (.aload_n 1, 1) := by decide +kernel
theorem dL_law_211 : decode cL_law 211 = .ok (.aload_n 0, 1) := by decide +kernel
theorem dL_law_212 : decode cL_law 212 = .ok (.iload_n 3, 1) := by decide +kernel
theorem dL_law_213 : decode cL_law 213 = .ok (.iconst 1, 1) := by decide +kernel
theorem dL_law_214 : decode cL_law 214 = .ok (.iadd, 1) := by decide +kernel
theorem dL_law_215 : decode cL_law 215 = .ok (.iaload, 1) := by decide +kernel
theorem dL_law_216 : decode cL_law 216 = .ok (.aload_n 0, 1) := by decide +kernel
theorem dL_law_217 : decode cL_law 217 = .ok (.iload_n 3, 1) := by decide +kernel
theorem dL_law_218 : decode cL_law 218 = .ok (.iconst 2, 1) := by decide +kernel
theorem dL_law_219 : decode cL_law 219 = .ok (.iadd, 1) := by decide +kernel
theorem dL_law_220 : decode cL_law 220 = .ok (.iaload, 1) := by decide +kernel
theorem dL_law_221 : decode cL_law 221 = .ok (.aload_n 0, 1) := by decide +kernel
theorem dL_law_222 : decode cL_law 222 = .ok (.iload_n 3, 1) := by decide +kernel
theorem dL_law_223 : decode cL_law 223 = .ok (.iconst 3, 1) := by decide +kernel
theorem dL_law_224 : decode cL_law 224 = .ok (.iadd, 1) := by decide +kernel
theorem dL_law_225 : decode cL_law 225 = .ok (.iaload, 1) := by decide +kernel
theorem dL_law_226 : decode cL_law 226 = .ok (.aload_n 0, 1) := by decide +kernel
theorem dL_law_227 : decode cL_law 227 = .ok (.iload_n 3, 1) := by decide +kernel
theorem dL_law_228 : decode cL_law 228 = .ok (.iconst 4, 1) := by decide +kernel
theorem dL_law_229 : decode cL_law 229 = .ok (.iadd, 1) := by decide +kernel
theorem dL_law_230 : decode cL_law 230 = .ok (.iaload, 1) := by decide +kernel
theorem dL_law_231 : decode cL_law 231 = .ok (.invokevirtual 23, 3) := by decide +kernel
theorem dL_law_234 : decode cL_law 234 = .ok (.aload_n 2, 1) := by decide +kernel
theorem dL_law_235 : decode cL_law 235 = .ok (.aload_n 0, 1) := by decide +kernel
theorem dL_law_236 : decode cL_law 236 = .ok (.iload_n 3, 1) := by decide +kernel
theorem dL_law_237 : decode cL_law 237 = .ok (.iconst 1, 1) := by decide +kernel
theorem dL_law_238 : decode cL_law 238 = .ok (.iadd, 1) := by decide +kernel
theorem dL_law_239 : decode cL_law 239 = .ok (.iaload, 1) := by decide +kernel
theorem dL_law_240 : decode cL_law 240 = .ok (.aload_n 0, 1) := by decide +kernel
theorem dL_law_241 : decode cL_law 241 = .ok (.iload_n 3, 1) := by decide +kernel
theorem dL_law_242 : decode cL_law 242 = .ok (.iconst 2, 1) := by decide +kernel
theorem dL_law_243 : decode cL_law 243 = .ok (.iadd, 1) := by decide +kernel
theorem dL_law_244 : decode cL_law 244 = .ok (.iaload, 1) := by decide +kernel
theorem dL_law_245 : decode cL_law 245 = .ok (.aload_n 0, 1) := by decide +kernel
theorem dL_law_246 : decode cL_law 246 = .ok (.iload_n 3, 1) := by decide +kernel
theorem dL_law_247 : decode cL_law 247 = .ok (.iconst 3, 1) := by decide +kernel
theorem dL_law_248 : decode cL_law 248 = .ok (.iadd, 1) := by decide +kernel
theorem dL_law_249 : decode cL_law 249 = .ok (.iaload, 1) := by decide +kernel
theorem dL_law_250 : decode cL_law 250 = .ok (.aload_n 0, 1) := by decide +kernel
theorem dL_law_251 : decode cL_law 251 = .ok (.iload_n 3, 1) := by decide +kernel
theorem dL_law_252 : decode cL_law 252 = .ok (.iconst 4, 1) := by decide +kernel
theorem dL_law_253 : decode cL_law 253 = .ok (.iadd, 1) := by decide +kernel
theorem dL_law_254 : decode cL_law 254 = .ok (.iaload, 1) := by decide +kernel
theorem dL_law_255 : decode cL_law 255 = .ok (.invokevirtual 27, 3) := by decide +kernel
theorem dL_law_258 : decode cL_law 258 = .ok (.if_icmp .eq 443, 3) := by decide +kernel
theorem dL_law_261 : decode cL_law 261 = .ok (.iconst 0, 1) := by decide +kernel
theorem dL_law_262 : decode cL_law 262 = .ok (.ireturn, 1) := by decide +kernel
theorem dL_law_263 : decode cL_law 263 = .ok (.aload_n 1, 1) := by decide +kernel
theorem dL_law_264 : decode cL_law 264 = .ok (.aload_n 0, 1) := by decide +kernel
theorem dL_law_265 : decode cL_law 265 = .ok (.iload_n 3, 1) := by decide +kernel
theorem dL_law_266 : decode cL_law 266 = .ok (.iconst 1, 1) := by decide +kernel
theorem dL_law_267 : decode cL_law 267 = .ok (.iadd, 1) := by decide +kernel
theorem dL_law_268 : decode cL_law 268 = .ok (.iaload, 1) := by decide +kernel
theorem dL_law_269 : decode cL_law 269 = .ok (.aload_n 0, 1) := by decide +kernel
theorem dL_law_270 : decode cL_law 270 = .ok (.iload_n 3, 1) := by decide +kernel
theorem dL_law_271 : decode cL_law 271 = .ok (.iconst 2, 1) := by decide +kernel
theorem dL_law_272 : decode cL_law 272 = .ok (.iadd, 1) := by decide +kernel
theorem dL_law_273 : decode cL_law 273 = .ok (.iaload, 1) := by decide +kernel
theorem dL_law_274 : decode cL_law 274 = .ok (.invokevirtual 28, 3) := by decide +kernel
theorem dL_law_277 : decode cL_law 277 = .ok (.aload_n 2, 1) := by decide +kernel
theorem dL_law_278 : decode cL_law 278 = .ok (.aload_n 0, 1) := by decide +kernel
theorem dL_law_279 : decode cL_law 279 = .ok (.iload_n 3, 1) := by decide +kernel
theorem dL_law_280 : decode cL_law 280 = .ok (.iconst 1, 1) := by decide +kernel
theorem dL_law_281 : decode cL_law 281 = .ok (.iadd, 1) := by decide +kernel
theorem dL_law_282 : decode cL_law 282 = .ok (.iaload, 1) := by decide +kernel
theorem dL_law_283 : decode cL_law 283 = .ok (.aload_n 0, 1) := by decide +kernel
theorem dL_law_284 : decode cL_law 284 = .ok (.iload_n 3, 1) := by decide +kernel
theorem dL_law_285 : decode cL_law 285 = .ok (.iconst 2, 1) := by decide +kernel
theorem dL_law_286 : decode cL_law 286 = .ok (.iadd, 1) := by decide +kernel
theorem dL_law_287 : decode cL_law 287 = .ok (.iaload, 1) := by decide +kernel
theorem dL_law_288 : decode cL_law 288 = .ok (.invokevirtual 32, 3) := by decide +kernel
theorem dL_law_291 : decode cL_law 291 = .ok (.if_icmp .eq 410, 3) := by decide +kernel
theorem dL_law_294 : decode cL_law 294 = .ok (.iconst 0, 1) := by decide +kernel
theorem dL_law_295 : decode cL_law 295 = .ok (.ireturn, 1) := by decide +kernel
theorem dL_law_296 : decode cL_law 296 = .ok (.aload_n 1, 1) := by decide +kernel
theorem dL_law_297 : decode cL_law 297 = .ok (.aload_n 0, 1) := by decide +kernel
theorem dL_law_298 : decode cL_law 298 = .ok (.iload_n 3, 1) := by decide +kernel
theorem dL_law_299 : decode cL_law 299 = .ok (.iconst 1, 1) := by decide +kernel
theorem dL_law_300 : decode cL_law 300 = .ok (.iadd, 1) := by decide +kernel
theorem dL_law_301 : decode cL_law 301 = .ok (.iaload, 1) := by decide +kernel
theorem dL_law_302 : decode cL_law 302 = .ok (.aload_n 0, 1) := by decide +kernel
theorem dL_law_303 : decode cL_law 303 = .ok (.iload_n 3, 1) := by decide +kernel
theorem dL_law_304 : decode cL_law 304 = .ok (.iconst 2, 1) := by decide +kernel
theorem dL_law_305 : decode cL_law 305 = .ok (.iadd, 1) := by decide +kernel
theorem dL_law_306 : decode cL_law 306 = .ok (.iaload, 1) := by decide +kernel
theorem dL_law_307 : decode cL_law 307 = .ok (.ifCond .eq 7, 3) := by decide +kernel
theorem dL_law_310 : decode cL_law 310 = .ok (.iconst 1, 1) := by decide +kernel
theorem dL_law_311 : decode cL_law 311 = .ok (.goto 4, 3) := by decide +kernel
theorem dL_law_314 : decode cL_law 314 = .ok (.iconst 0, 1) := by decide +kernel
theorem dL_law_315 : decode cL_law 315 = .ok (.invokevirtual 33, 3) := by decide +kernel
theorem dL_law_318 : decode cL_law 318 = .ok (.aload_n 2, 1) := by decide +kernel
theorem dL_law_319 : decode cL_law 319 = .ok (.aload_n 0, 1) := by decide +kernel
theorem dL_law_320 : decode cL_law 320 = .ok (.iload_n 3, 1) := by decide +kernel
theorem dL_law_321 : decode cL_law 321 = .ok (.iconst 1, 1) := by decide +kernel
theorem dL_law_322 : decode cL_law 322 = .ok (.iadd, 1) := by decide +kernel
theorem dL_law_323 : decode cL_law 323 = .ok (.iaload, 1) := by decide +kernel
theorem dL_law_324 : decode cL_law 324 = .ok (.aload_n 0, 1) := by decide +kernel
theorem dL_law_325 : decode cL_law 325 = .ok (.iload_n 3, 1) := by decide +kernel
theorem dL_law_326 : decode cL_law 326 = .ok (.iconst 2, 1) := by decide +kernel
theorem dL_law_327 : decode cL_law 327 = .ok (.iadd, 1) := by decide +kernel
theorem dL_law_328 : decode cL_law 328 = .ok (.iaload, 1) := by decide +kernel
theorem dL_law_329 : decode cL_law 329 = .ok (.ifCond .eq 7, 3) := by decide +kernel
theorem dL_law_332 : decode cL_law 332 = .ok (.iconst 1, 1) := by decide +kernel
theorem dL_law_333 : decode cL_law 333 = .ok (.goto 4, 3) := by decide +kernel
theorem dL_law_336 : decode cL_law 336 = .ok (.iconst 0, 1) := by decide +kernel
theorem dL_law_337 : decode cL_law 337 = .ok (.invokevirtual 37, 3) := by decide +kernel
theorem dL_law_340 : decode cL_law 340 = .ok (.if_icmp .eq 361, 3) := by decide +kernel
theorem dL_law_343 : decode cL_law 343 = .ok (.iconst 0, 1) := by decide +kernel
theorem dL_law_344 : decode cL_law 344 = .ok (.ireturn, 1) := by decide +kernel
theorem dL_law_345 : decode cL_law 345 = .ok (.aload_n 1, 1) := by decide +kernel
theorem dL_law_346 : decode cL_law 346 = .ok (.aload_n 0, 1) := by decide +kernel
theorem dL_law_347 : decode cL_law 347 = .ok (.iload_n 3, 1) := by decide +kernel
theorem dL_law_348 : decode cL_law 348 = .ok (.iconst 1, 1) := by decide +kernel
theorem dL_law_349 : decode cL_law 349 = .ok (.iadd, 1) := by decide +kernel
theorem dL_law_350 : decode cL_law 350 = .ok (.iaload, 1) := by decide +kernel
theorem dL_law_351 : decode cL_law 351 = .ok (.aload_n 0, 1) := by decide +kernel
theorem dL_law_352 : decode cL_law 352 = .ok (.iload_n 3, 1) := by decide +kernel
theorem dL_law_353 : decode cL_law 353 = .ok (.iconst 2, 1) := by decide +kernel
theorem dL_law_354 : decode cL_law 354 = .ok (.iadd, 1) := by decide +kernel
theorem dL_law_355 : decode cL_law 355 = .ok (.iaload, 1) := by decide +kernel
theorem dL_law_356 : decode cL_law 356 = .ok (.invokevirtual 38, 3) := by decide +kernel
theorem dL_law_359 : decode cL_law 359 = .ok (.aload_n 2, 1) := by decide +kernel
theorem dL_law_360 : decode cL_law 360 = .ok (.aload_n 0, 1) := by decide +kernel
theorem dL_law_361 : decode cL_law 361 = .ok (.iload_n 3, 1) := by decide +kernel
theorem dL_law_362 : decode cL_law 362 = .ok (.iconst 1, 1) := by decide +kernel
theorem dL_law_363 : decode cL_law 363 = .ok (.iadd, 1) := by decide +kernel
theorem dL_law_364 : decode cL_law 364 = .ok (.iaload, 1) := by decide +kernel
theorem dL_law_365 : decode cL_law 365 = .ok (.aload_n 0, 1) := by decide +kernel
theorem dL_law_366 : decode cL_law 366 = .ok (.iload_n 3, 1) := by decide +kernel
theorem dL_law_367 : decode cL_law 367 = .ok (.iconst 2, 1) := by decide +kernel
theorem dL_law_368 : decode cL_law 368 = .ok (.iadd, 1) := by decide +kernel
theorem dL_law_369 : decode cL_law 369 = .ok (.iaload, 1) := by decide +kernel
theorem dL_law_370 : decode cL_law 370 = .ok (.invokevirtual 41, 3) := by decide +kernel
theorem dL_law_373 : decode cL_law 373 = .ok (.if_icmp .eq 328, 3) := by decide +kernel
theorem dL_law_376 : decode cL_law 376 = .ok (.iconst 0, 1) := by decide +kernel
theorem dL_law_377 : decode cL_law 377 = .ok (.ireturn, 1) := by decide +kernel
theorem dL_law_378 : decode cL_law 378 = .ok (.aload_n 1, 1) := by decide +kernel
theorem dL_law_379 : decode cL_law 379 = .ok (.aload_n 0, 1) := by decide +kernel
theorem dL_law_380 : decode cL_law 380 = .ok (.iload_n 3, 1) := by decide +kernel
theorem dL_law_381 : decode cL_law 381 = .ok (.iconst 1, 1) := by decide +kernel
theorem dL_law_382 : decode cL_law 382 = .ok (.iadd, 1) := by decide +kernel
theorem dL_law_383 : decode cL_law 383 = .ok (.iaload, 1) := by decide +kernel
theorem dL_law_384 : decode cL_law 384 = .ok (.invokevirtual 42, 3) := by decide +kernel
theorem dL_law_387 : decode cL_law 387 = .ok (.aload_n 2, 1) := by decide +kernel
theorem dL_law_388 : decode cL_law 388 = .ok (.aload_n 0, 1) := by decide +kernel
theorem dL_law_389 : decode cL_law 389 = .ok (.iload_n 3, 1) := by decide +kernel
theorem dL_law_390 : decode cL_law 390 = .ok (.iconst 1, 1) := by decide +kernel
theorem dL_law_391 : decode cL_law 391 = .ok (.iadd, 1) := by decide +kernel
theorem dL_law_392 : decode cL_law 392 = .ok (.iaload, 1) := by decide +kernel
theorem dL_law_393 : decode cL_law 393 = .ok (.invokevirtual 46, 3) := by decide +kernel
theorem dL_law_396 : decode cL_law 396 = .ok (.if_icmp .eq 305, 3) := by decide +kernel
theorem dL_law_399 : decode cL_law 399 = .ok (.iconst 0, 1) := by decide +kernel
theorem dL_law_400 : decode cL_law 400 = .ok (.ireturn, 1) := by decide +kernel
theorem dL_law_401 : decode cL_law 401 = .ok (.aload_n 1, 1) := by decide +kernel
theorem dL_law_402 : decode cL_law 402 = .ok (.aload_n 0, 1) := by decide +kernel
theorem dL_law_403 : decode cL_law 403 = .ok (.iload_n 3, 1) := by decide +kernel
theorem dL_law_404 : decode cL_law 404 = .ok (.iconst 1, 1) := by decide +kernel
theorem dL_law_405 : decode cL_law 405 = .ok (.iadd, 1) := by decide +kernel
theorem dL_law_406 : decode cL_law 406 = .ok (.iaload, 1) := by decide +kernel
theorem dL_law_407 : decode cL_law 407 = .ok (.ifCond .eq 7, 3) := by decide +kernel
theorem dL_law_410 : decode cL_law 410 = .ok (.iconst 1, 1) := by decide +kernel
theorem dL_law_411 : decode cL_law 411 = .ok (.goto 4, 3) := by decide +kernel
theorem dL_law_414 : decode cL_law 414 = .ok (.iconst 0, 1) := by decide +kernel
theorem dL_law_415 : decode cL_law 415 = .ok (.invokevirtual 47, 3) := by decide +kernel
theorem dL_law_418 : decode cL_law 418 = .ok (.aload_n 2, 1) := by decide +kernel
theorem dL_law_419 : decode cL_law 419 = .ok (.aload_n 0, 1) := by decide +kernel
theorem dL_law_420 : decode cL_law 420 = .ok (.iload_n 3, 1) := by decide +kernel
theorem dL_law_421 : decode cL_law 421 = .ok (.iconst 1, 1) := by decide +kernel
theorem dL_law_422 : decode cL_law 422 = .ok (.iadd, 1) := by decide +kernel
theorem dL_law_423 : decode cL_law 423 = .ok (.iaload, 1) := by decide +kernel
theorem dL_law_424 : decode cL_law 424 = .ok (.ifCond .eq 7, 3) := by decide +kernel
theorem dL_law_427 : decode cL_law 427 = .ok (.iconst 1, 1) := by decide +kernel
theorem dL_law_428 : decode cL_law 428 = .ok (.goto 4, 3) := by decide +kernel
theorem dL_law_431 : decode cL_law 431 = .ok (.iconst 0, 1) := by decide +kernel
theorem dL_law_432 : decode cL_law 432 = .ok (.invokevirtual 51, 3) := by decide +kernel
theorem dL_law_435 : decode cL_law 435 = .ok (.goto 266, 3) := by decide +kernel
theorem dL_law_438 : decode cL_law 438 = .ok (.aload_n 1, 1) := by decide +kernel
theorem dL_law_439 : decode cL_law 439 = .ok (.invokevirtual 52, 3) := by decide +kernel
theorem dL_law_442 : decode cL_law 442 = .ok (.aload_n 2, 1) := by decide +kernel
theorem dL_law_443 : decode cL_law 443 = .ok (.invokevirtual 56, 3) := by decide +kernel
theorem dL_law_446 : decode cL_law 446 = .ok (.if_icmp .eq 255, 3) := by decide +kernel
theorem dL_law_449 : decode cL_law 449 = .ok (.iconst 0, 1) := by decide +kernel
theorem dL_law_450 : decode cL_law 450 = .ok (.ireturn, 1) := by decide +kernel
theorem dL_law_451 : decode cL_law 451 = .ok (.aload_n 1, 1) := by decide +kernel
theorem dL_law_452 : decode cL_law 452 = .ok (.invokevirtual 57, 3) := by decide +kernel
theorem dL_law_455 : decode cL_law 455 = .ok (.aload_n 2, 1) := by decide +kernel
theorem dL_law_456 : decode cL_law 456 = .ok (.invokevirtual 61, 3) := by decide +kernel
theorem dL_law_459 : decode cL_law 459 = .ok (.if_icmp .eq 242, 3) := by decide +kernel
theorem dL_law_462 : decode cL_law 462 = .ok (.iconst 0, 1) := by decide +kernel
theorem dL_law_463 : decode cL_law 463 = .ok (.ireturn, 1) := by decide +kernel
theorem dL_law_464 : decode cL_law 464 = .ok (.aload_n 1, 1) := by decide +kernel
theorem dL_law_465 : decode cL_law 465 = .ok (.aload_n 0, 1) := by decide +kernel
theorem dL_law_466 : decode cL_law 466 = .ok (.iload_n 3, 1) := by decide +kernel
theorem dL_law_467 : decode cL_law 467 = .ok (.iconst 1, 1) := by decide +kernel
theorem dL_law_468 : decode cL_law 468 = .ok (.iadd, 1) := by decide +kernel
theorem dL_law_469 : decode cL_law 469 = .ok (.iaload, 1) := by decide +kernel
theorem dL_law_470 : decode cL_law 470 = .ok (.invokevirtual 62, 3) := by decide +kernel
theorem dL_law_473 : decode cL_law 473 = .ok (.aload_n 2, 1) := by decide +kernel
theorem dL_law_474 : decode cL_law 474 = .ok (.aload_n 0, 1) := by decide +kernel
theorem dL_law_475 : decode cL_law 475 = .ok (.iload_n 3, 1) := by decide +kernel
theorem dL_law_476 : decode cL_law 476 = .ok (.iconst 1, 1) := by decide +kernel
theorem dL_law_477 : decode cL_law 477 = .ok (.iadd, 1) := by decide +kernel
theorem dL_law_478 : decode cL_law 478 = .ok (.iaload, 1) := by decide +kernel
theorem dL_law_479 : decode cL_law 479 = .ok (.invokevirtual 65, 3) := by decide +kernel
theorem dL_law_482 : decode cL_law 482 = .ok (.if_icmp .eq 219, 3) := by decide +kernel
theorem dL_law_485 : decode cL_law 485 = .ok (.iconst 0, 1) := by decide +kernel
theorem dL_law_486 : decode cL_law 486 = .ok (.ireturn, 1) := by decide +kernel
theorem dL_law_487 : decode cL_law 487 = .ok (.aload_n 1, 1) := by decide +kernel
theorem dL_law_488 : decode cL_law 488 = .ok (.aload_n 0, 1) := by decide +kernel
theorem dL_law_489 : decode cL_law 489 = .ok (.iload_n 3, 1) := by decide +kernel
theorem dL_law_490 : decode cL_law 490 = .ok (.iconst 1, 1) := by decide +kernel
theorem dL_law_491 : decode cL_law 491 = .ok (.iadd, 1) := by decide +kernel
theorem dL_law_492 : decode cL_law 492 = .ok (.iaload, 1) := by decide +kernel
theorem dL_law_493 : decode cL_law 493 = .ok (.invokevirtual 66, 3) := by decide +kernel
theorem dL_law_496 : decode cL_law 496 = .ok (.aload_n 2, 1) := by decide +kernel
theorem dL_law_497 : decode cL_law 497 = .ok (.aload_n 0, 1) := by decide +kernel
theorem dL_law_498 : decode cL_law 498 = .ok (.iload_n 3, 1) := by decide +kernel
theorem dL_law_499 : decode cL_law 499 = .ok (.iconst 1, 1) := by decide +kernel
theorem dL_law_500 : decode cL_law 500 = .ok (.iadd, 1) := by decide +kernel
theorem dL_law_501 : decode cL_law 501 = .ok (.iaload, 1) := by decide +kernel
theorem dL_law_502 : decode cL_law 502 = .ok (.invokevirtual 69, 3) := by decide +kernel
theorem dL_law_505 : decode cL_law 505 = .ok (.if_icmp .eq 196, 3) := by decide +kernel
theorem dL_law_508 : decode cL_law 508 = .ok (.iconst 0, 1) := by decide +kernel
theorem dL_law_509 : decode cL_law 509 = .ok (.ireturn, 1) := by decide +kernel
theorem dL_law_510 : decode cL_law 510 = .ok (.aload_n 1, 1) := by decide +kernel
theorem dL_law_511 : decode cL_law 511 = .ok (.aload_n 0, 1) := by decide +kernel
theorem dL_law_512 : decode cL_law 512 = .ok (.iload_n 3, 1) := by decide +kernel
theorem dL_law_513 : decode cL_law 513 = .ok (.iconst 1, 1) := by decide +kernel
theorem dL_law_514 : decode cL_law 514 = .ok (.iadd, 1) := by decide +kernel
theorem dL_law_515 : decode cL_law 515 = .ok (.iaload, 1) := by decide +kernel
theorem dL_law_516 : decode cL_law 516 = .ok (.invokevirtual 70, 3) := by decide +kernel
theorem dL_law_519 : decode cL_law 519 = .ok (.aload_n 2, 1) := by decide +kernel
theorem dL_law_520 : decode cL_law 520 = .ok (.aload_n 0, 1) := by decide +kernel
theorem dL_law_521 : decode cL_law 521 = .ok (.iload_n 3, 1) := by decide +kernel
theorem dL_law_522 : decode cL_law 522 = .ok (.iconst 1, 1) := by decide +kernel
theorem dL_law_523 : decode cL_law 523 = .ok (.iadd, 1) := by decide +kernel
theorem dL_law_524 : decode cL_law 524 = .ok (.iaload, 1) := by decide +kernel
theorem dL_law_525 : decode cL_law 525 = .ok (.invokevirtual 73, 3) := by decide +kernel
theorem dL_law_528 : decode cL_law 528 = .ok (.if_icmp .eq 173, 3) := by decide +kernel
theorem dL_law_531 : decode cL_law 531 = .ok (.iconst 0, 1) := by decide +kernel
theorem dL_law_532 : decode cL_law 532 = .ok (.ireturn, 1) := by decide +kernel
theorem dL_law_533 : decode cL_law 533 = .ok (.aload_n 1, 1) := by decide +kernel
theorem dL_law_534 : decode cL_law 534 = .ok (.invokevirtual 74, 3) := by decide +kernel
theorem dL_law_537 : decode cL_law 537 = .ok (.aload_n 2, 1) := by decide +kernel
theorem dL_law_538 : decode cL_law 538 = .ok (.invokevirtual 77, 3) := by decide +kernel
theorem dL_law_541 : decode cL_law 541 = .ok (.if_icmp .eq 160, 3) := by decide +kernel
theorem dL_law_544 : decode cL_law 544 = .ok (.iconst 0, 1) := by decide +kernel
theorem dL_law_545 : decode cL_law 545 = .ok (.ireturn, 1) := by decide +kernel
theorem dL_law_546 : decode cL_law 546 = .ok (.aload_n 1, 1) := by decide +kernel
theorem dL_law_547 : decode cL_law 547 = .ok (.aload_n 0, 1) := by decide +kernel
theorem dL_law_548 : decode cL_law 548 = .ok (.iload_n 3, 1) := by decide +kernel
theorem dL_law_549 : decode cL_law 549 = .ok (.iconst 1, 1) := by decide +kernel
theorem dL_law_550 : decode cL_law 550 = .ok (.iadd, 1) := by decide +kernel
theorem dL_law_551 : decode cL_law 551 = .ok (.iaload, 1) := by decide +kernel
theorem dL_law_552 : decode cL_law 552 = .ok (.invokevirtual 78, 3) := by decide +kernel
theorem dL_law_555 : decode cL_law 555 = .ok (.aload_n 2, 1) := by decide +kernel
theorem dL_law_556 : decode cL_law 556 = .ok (.aload_n 0, 1) := by decide +kernel
theorem dL_law_557 : decode cL_law 557 = .ok (.iload_n 3, 1) := by decide +kernel
theorem dL_law_558 : decode cL_law 558 = .ok (.iconst 1, 1) := by decide +kernel
theorem dL_law_559 : decode cL_law 559 = .ok (.iadd, 1) := by decide +kernel
theorem dL_law_560 : decode cL_law 560 = .ok (.iaload, 1) := by decide +kernel
theorem dL_law_561 : decode cL_law 561 = .ok (.invokevirtual 81, 3) := by decide +kernel
theorem dL_law_564 : decode cL_law 564 = .ok (.if_icmp .eq 137, 3) := by decide +kernel
theorem dL_law_567 : decode cL_law 567 = .ok (.iconst 0, 1) := by decide +kernel
theorem dL_law_568 : decode cL_law 568 = .ok (.ireturn, 1) := by decide +kernel
theorem dL_law_569 : decode cL_law 569 = .ok (.aload_n 1, 1) := by decide +kernel
theorem dL_law_570 : decode cL_law 570 = .ok (.aload_n 0, 1) := by decide +kernel
theorem dL_law_571 : decode cL_law 571 = .ok (.iload_n 3, 1) := by decide +kernel
theorem dL_law_572 : decode cL_law 572 = .ok (.iconst 1, 1) := by decide +kernel
theorem dL_law_573 : decode cL_law 573 = .ok (.iadd, 1) := by decide +kernel
theorem dL_law_574 : decode cL_law 574 = .ok (.iaload, 1) := by decide +kernel
theorem dL_law_575 : decode cL_law 575 = .ok (.aload_n 0, 1) := by decide +kernel
theorem dL_law_576 : decode cL_law 576 = .ok (.iload_n 3, 1) := by decide +kernel
theorem dL_law_577 : decode cL_law 577 = .ok (.iconst 2, 1) := by decide +kernel
theorem dL_law_578 : decode cL_law 578 = .ok (.iadd, 1) := by decide +kernel
theorem dL_law_579 : decode cL_law 579 = .ok (.iaload, 1) := by decide +kernel
theorem dL_law_580 : decode cL_law 580 = .ok (.invokevirtual 82, 3) := by decide +kernel
theorem dL_law_583 : decode cL_law 583 = .ok (.aload_n 2, 1) := by decide +kernel
theorem dL_law_584 : decode cL_law 584 = .ok (.aload_n 0, 1) := by decide +kernel
theorem dL_law_585 : decode cL_law 585 = .ok (.iload_n 3, 1) := by decide +kernel
theorem dL_law_586 : decode cL_law 586 = .ok (.iconst 1, 1) := by decide +kernel
theorem dL_law_587 : decode cL_law 587 = .ok (.iadd, 1) := by decide +kernel
theorem dL_law_588 : decode cL_law 588 = .ok (.iaload, 1) := by decide +kernel
theorem dL_law_589 : decode cL_law 589 = .ok (.aload_n 0, 1) := by decide +kernel
theorem dL_law_590 : decode cL_law 590 = .ok (.iload_n 3, 1) := by decide +kernel
theorem dL_law_591 : decode cL_law 591 = .ok (.iconst 2, 1) := by decide +kernel
theorem dL_law_592 : decode cL_law 592 = .ok (.iadd, 1) := by decide +kernel
theorem dL_law_593 : decode cL_law 593 = .ok (.iaload, 1) := by decide +kernel
theorem dL_law_594 : decode cL_law 594 = .ok (.invokevirtual 86, 3) := by decide +kernel
theorem dL_law_597 : decode cL_law 597 = .ok (.if_icmp .eq 104, 3) := by decide +kernel
theorem dL_law_600 : decode cL_law 600 = .ok (.iconst 0, 1) := by decide +kernel
theorem dL_law_601 : decode cL_law 601 = .ok (.ireturn, 1) := by decide +kernel
theorem dL_law_602 : decode cL_law 602 = .ok (.aload_n 1, 1) := by decide +kernel
theorem dL_law_603 : decode cL_law 603 = .ok (.aload_n 0, 1) := by decide +kernel
theorem dL_law_604 : decode cL_law 604 = .ok (.iload_n 3, 1) := by decide +kernel
theorem dL_law_605 : decode cL_law 605 = .ok (.iconst 1, 1) := by decide +kernel
theorem dL_law_606 : decode cL_law 606 = .ok (.iadd, 1) := by decide +kernel
theorem dL_law_607 : decode cL_law 607 = .ok (.iaload, 1) := by decide +kernel
theorem dL_law_608 : decode cL_law 608 = .ok (.aload_n 0, 1) := by decide +kernel
theorem dL_law_609 : decode cL_law 609 = .ok (.iload_n 3, 1) := by decide +kernel
theorem dL_law_610 : decode cL_law 610 = .ok (.iconst 2, 1) := by decide +kernel
theorem dL_law_611 : decode cL_law 611 = .ok (.iadd, 1) := by decide +kernel
theorem dL_law_612 : decode cL_law 612 = .ok (.iaload, 1) := by decide +kernel
theorem dL_law_613 : decode cL_law 613 = .ok (.invokevirtual 87, 3) := by decide +kernel
theorem dL_law_616 : decode cL_law 616 = .ok (.aload_n 2, 1) := by decide +kernel
theorem dL_law_617 : decode cL_law 617 = .ok (.aload_n 0, 1) := by decide +kernel
theorem dL_law_618 : decode cL_law 618 = .ok (.iload_n 3, 1) := by decide +kernel
theorem dL_law_619 : decode cL_law 619 = .ok (.iconst 1, 1) := by decide +kernel
theorem dL_law_620 : decode cL_law 620 = .ok (.iadd, 1) := by decide +kernel
theorem dL_law_621 : decode cL_law 621 = .ok (.iaload, 1) := by decide +kernel
theorem dL_law_622 : decode cL_law 622 = .ok (.aload_n 0, 1) := by decide +kernel
theorem dL_law_623 : decode cL_law 623 = .ok (.iload_n 3, 1) := by decide +kernel
theorem dL_law_624 : decode cL_law 624 = .ok (.iconst 2, 1) := by decide +kernel
theorem dL_law_625 : decode cL_law 625 = .ok (.iadd, 1) := by decide +kernel
theorem dL_law_626 : decode cL_law 626 = .ok (.iaload, 1) := by decide +kernel
theorem dL_law_627 : decode cL_law 627 = .ok (.invokevirtual 90, 3) := by decide +kernel
theorem dL_law_630 : decode cL_law 630 = .ok (.if_icmp .eq 71, 3) := by decide +kernel
theorem dL_law_633 : decode cL_law 633 = .ok (.iconst 0, 1) := by decide +kernel
theorem dL_law_634 : decode cL_law 634 = .ok (.ireturn, 1) := by decide +kernel
theorem dL_law_635 : decode cL_law 635 = .ok (.aload_n 1, 1) := by decide +kernel
theorem dL_law_636 : decode cL_law 636 = .ok (.aload_n 0, 1) := by decide +kernel
theorem dL_law_637 : decode cL_law 637 = .ok (.iload_n 3, 1) := by decide +kernel
theorem dL_law_638 : decode cL_law 638 = .ok (.iconst 1, 1) := by decide +kernel
theorem dL_law_639 : decode cL_law 639 = .ok (.iadd, 1) := by decide +kernel
theorem dL_law_640 : decode cL_law 640 = .ok (.iaload, 1) := by decide +kernel
theorem dL_law_641 : decode cL_law 641 = .ok (.aload_n 0, 1) := by decide +kernel
theorem dL_law_642 : decode cL_law 642 = .ok (.iload_n 3, 1) := by decide +kernel
theorem dL_law_643 : decode cL_law 643 = .ok (.iconst 2, 1) := by decide +kernel
theorem dL_law_644 : decode cL_law 644 = .ok (.iadd, 1) := by decide +kernel
theorem dL_law_645 : decode cL_law 645 = .ok (.iaload, 1) := by decide +kernel
theorem dL_law_646 : decode cL_law 646 = .ok (.aload_n 0, 1) := by decide +kernel
theorem dL_law_647 : decode cL_law 647 = .ok (.iload_n 3, 1) := by decide +kernel
theorem dL_law_648 : decode cL_law 648 = .ok (.iconst 3, 1) := by decide +kernel
theorem dL_law_649 : decode cL_law 649 = .ok (.iadd, 1) := by decide +kernel
theorem dL_law_650 : decode cL_law 650 = .ok (.iaload, 1) := by decide +kernel
theorem dL_law_651 : decode cL_law 651 = .ok (.invokevirtual 91, 3) := by decide +kernel
theorem dL_law_654 : decode cL_law 654 = .ok (.aload_n 2, 1) := by decide +kernel
theorem dL_law_655 : decode cL_law 655 = .ok (.aload_n 0, 1) := by decide +kernel
theorem dL_law_656 : decode cL_law 656 = .ok (.iload_n 3, 1) := by decide +kernel
theorem dL_law_657 : decode cL_law 657 = .ok (.iconst 1, 1) := by decide +kernel
theorem dL_law_658 : decode cL_law 658 = .ok (.iadd, 1) := by decide +kernel
theorem dL_law_659 : decode cL_law 659 = .ok (.iaload, 1) := by decide +kernel
theorem dL_law_660 : decode cL_law 660 = .ok (.aload_n 0, 1) := by decide +kernel
theorem dL_law_661 : decode cL_law 661 = .ok (.iload_n 3, 1) := by decide +kernel
theorem dL_law_662 : decode cL_law 662 = .ok (.iconst 2, 1) := by decide +kernel
theorem dL_law_663 : decode cL_law 663 = .ok (.iadd, 1) := by decide +kernel
theorem dL_law_664 : decode cL_law 664 = .ok (.iaload, 1) := by decide +kernel
theorem dL_law_665 : decode cL_law 665 = .ok (.aload_n 0, 1) := by decide +kernel
theorem dL_law_666 : decode cL_law 666 = .ok (.iload_n 3, 1) := by decide +kernel
theorem dL_law_667 : decode cL_law 667 = .ok (.iconst 3, 1) := by decide +kernel
theorem dL_law_668 : decode cL_law 668 = .ok (.iadd, 1) := by decide +kernel
theorem dL_law_669 : decode cL_law 669 = .ok (.iaload, 1) := by decide +kernel
theorem dL_law_670 : decode cL_law 670 = .ok (.invokevirtual 95, 3) := by decide +kernel
theorem dL_law_673 : decode cL_law 673 = .ok (.if_icmp .eq 28, 3) := by decide +kernel
theorem dL_law_676 : decode cL_law 676 = .ok (.iconst 0, 1) := by decide +kernel
theorem dL_law_677 : decode cL_law 677 = .ok (.ireturn, 1) := by decide +kernel
theorem dL_law_678 : decode cL_law 678 = .ok (.aload_n 1, 1) := by decide +kernel
theorem dL_law_679 : decode cL_law 679 = .ok (.aload_n 0, 1) := by decide +kernel
theorem dL_law_680 : decode cL_law 680 = .ok (.iload_n 3, 1) := by decide +kernel
theorem dL_law_681 : decode cL_law 681 = .ok (.iconst 1, 1) := by decide +kernel
theorem dL_law_682 : decode cL_law 682 = .ok (.iadd, 1) := by decide +kernel
theorem dL_law_683 : decode cL_law 683 = .ok (.iaload, 1) := by decide +kernel
theorem dL_law_684 : decode cL_law 684 = .ok (.invokevirtual 96, 3) := by decide +kernel
theorem dL_law_687 : decode cL_law 687 = .ok (.aload_n 2, 1) := by decide +kernel
theorem dL_law_688 : decode cL_law 688 = .ok (.aload_n 0, 1) := by decide +kernel
theorem dL_law_689 : decode cL_law 689 = .ok (.iload_n 3, 1) := by decide +kernel
theorem dL_law_690 : decode cL_law 690 = .ok (.iconst 1, 1) := by decide +kernel
theorem dL_law_691 : decode cL_law 691 = .ok (.iadd, 1) := by decide +kernel
theorem dL_law_692 : decode cL_law 692 = .ok (.iaload, 1) := by decide +kernel
theorem dL_law_693 : decode cL_law 693 = .ok (.invokevirtual 99, 3) := by decide +kernel
theorem dL_law_696 : decode cL_law 696 = .ok (.if_icmp .eq 5, 3) := by decide +kernel
theorem dL_law_699 : decode cL_law 699 = .ok (.iconst 0, 1) := by decide +kernel
theorem dL_law_700 : decode cL_law 700 = .ok (.ireturn, 1) := by decide +kernel
theorem dL_law_701 : decode cL_law 701 = .ok (.iinc 3 6, 3) := by decide +kernel
theorem dL_law_704 : decode cL_law 704 = .ok (.goto (-686), 3) := by decide +kernel
theorem dL_law_707 : decode cL_law 707 = .ok (.iconst 1, 1) := by decide +kernel
theorem dL_law_708 : decode cL_law 708 = .ok (.ireturn, 1) := by decide +kernel
