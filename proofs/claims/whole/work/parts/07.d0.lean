/-! decode rows, as printed -/
theorem dX0_init_0 : decode cX0_init 0 = .ok (.aload_n 0, 1) := by decide +kernel
theorem dX0_init_1 : decode cX0_init 1 = .ok (.invokespecial 3, 3) := by decide +kernel
theorem dX0_init_4 : decode cX0_init 4 = .ok (.aload_n 0, 1) := by decide +kernel
theorem dX0_init_5 : decode cX0_init 5 = .ok (.iload_n 1, 1) := by decide +kernel
theorem dX0_init_6 : decode cX0_init 6 = .ok (.iconst 0, 1) := by decide +kernel
theorem dX0_init_7 : decode cX0_init 7 = .ok (.invokestatic 9, 3) := by decide +kernel
theorem dX0_init_10 : decode cX0_init 10 = .ok (.newarray .byte, 2) := by decide +kernel
theorem dX0_init_12 : decode cX0_init 12 = .ok (.putfield 15, 3) := by decide +kernel
theorem dX0_init_15 : decode cX0_init 15 = .ok (.return_, 1) := by decide +kernel
theorem dX0_hasRoom_0 : decode cX0_hasRoom 0 = .ok (.iload_n 1, 1) := by decide +kernel
theorem dX0_hasRoom_1 : decode cX0_hasRoom 1 = .ok (.aload_n 0, 1) := by decide +kernel
theorem dX0_hasRoom_2 : decode cX0_hasRoom 2 = .ok (.getfield 15, 3) := by decide +kernel
theorem dX0_hasRoom_5 : decode cX0_hasRoom 5 = .ok (.arraylength, 1) := by decide +kernel
theorem dX0_hasRoom_6 : decode cX0_hasRoom 6 = .ok (.aload_n 0, 1) := by decide +kernel
theorem dX0_hasRoom_7 : decode cX0_hasRoom 7 = .ok (.getfield 21, 3) := by decide +kernel
theorem dX0_hasRoom_10 : decode cX0_hasRoom 10 = .ok (.isub, 1) := by decide +kernel
theorem dX0_hasRoom_11 : decode cX0_hasRoom 11 = .ok (.if_icmp .gt 7, 3) := by decide +kernel
theorem dX0_hasRoom_14 : decode cX0_hasRoom 14 = .ok (.iconst 1, 1) := by decide +kernel
theorem dX0_hasRoom_15 : decode cX0_hasRoom 15 = .ok (.goto 4, 3) := by decide +kernel
theorem dX0_hasRoom_18 : decode cX0_hasRoom 18 = .ok (.iconst 0, 1) := by decide +kernel
theorem dX0_hasRoom_19 : decode cX0_hasRoom 19 = .ok (.ireturn, 1) := by decide +kernel
theorem dX0_addByte_0 : decode cX0_addByte 0 = .ok (.aload_n 0, 1) := by decide +kernel
theorem dX0_addByte_1 : decode cX0_addByte 1 = .ok (.getfield 21, 3) := by decide +kernel
theorem dX0_addByte_4 : decode cX0_addByte 4 = .ok (.ifCond .lt 36, 3) := by decide +kernel
theorem dX0_addByte_7 : decode cX0_addByte 7 = .ok (.aload_n 0, 1) := by decide +kernel
theorem dX0_addByte_8 : decode cX0_addByte 8 = .ok (.getfield 21, 3) := by decide +kernel
theorem dX0_addByte_11 : decode cX0_addByte 11 = .ok (.aload_n 0, 1) := by decide +kernel
theorem dX0_addByte_12 : decode cX0_addByte 12 = .ok (.getfield 15, 3) := by decide +kernel
theorem dX0_addByte_15 : decode cX0_addByte 15 = .ok (.arraylength, 1) := by decide +kernel
theorem dX0_addByte_16 : decode cX0_addByte 16 = .ok (.if_icmp .ge 24, 3) := by decide +kernel
theorem dX0_addByte_19 : decode cX0_addByte 19 = .ok (.aload_n 0, 1) := by decide +kernel
theorem dX0_addByte_20 : decode cX0_addByte 20 = .ok (.getfield 15, 3) := by decide +kernel
theorem dX0_addByte_23 : decode cX0_addByte 23 = .ok (.aload_n 0, 1) := by decide +kernel
theorem dX0_addByte_24 : decode cX0_addByte 24 = .ok (.getfield 21, 3) := by decide +kernel
theorem dX0_addByte_27 : decode cX0_addByte 27 = .ok (.iload_n 1, 1) := by decide +kernel
theorem dX0_addByte_28 : decode cX0_addByte 28 = .ok (.i2b, 1) := by decide +kernel
theorem dX0_addByte_29 : decode cX0_addByte 29 = .ok (.bastore, 1) := by decide +kernel
theorem dX0_addByte_30 : decode cX0_addByte 30 = .ok (.aload_n 0, 1) := by decide +kernel
theorem dX0_addByte_31 : decode cX0_addByte 31 = .ok (.dup, 1) := by decide +kernel
theorem dX0_addByte_32 : decode cX0_addByte 32 = .ok (.getfield 21, 3) := by decide +kernel
theorem dX0_addByte_35 : decode cX0_addByte 35 = .ok (.iconst 1, 1) := by decide +kernel
theorem dX0_addByte_36 : decode cX0_addByte 36 = .ok (.iadd, 1) := by decide +kernel
theorem dX0_addByte_37 : decode cX0_addByte 37 = .ok (.putfield 21, 3) := by decide +kernel
theorem dX0_addByte_40 : decode cX0_addByte 40 = .ok (.return_, 1) := by decide +kernel
theorem dX0_addTwo_0 : decode cX0_addTwo 0 = .ok (.aload_n 0, 1) := by decide +kernel
theorem dX0_addTwo_1 : decode cX0_addTwo 1 = .ok (.iload_n 1, 1) := by decide +kernel
theorem dX0_addTwo_2 : decode cX0_addTwo 2 = .ok (.bipush 8, 2) := by decide +kernel
theorem dX0_addTwo_4 : decode cX0_addTwo 4 = .ok (.iushr, 1) := by decide +kernel
theorem dX0_addTwo_5 : decode cX0_addTwo 5 = .ok (.invokevirtual 25, 3) := by decide +kernel
theorem dX0_addTwo_8 : decode cX0_addTwo 8 = .ok (.aload_n 0, 1) := by decide +kernel
theorem dX0_addTwo_9 : decode cX0_addTwo 9 = .ok (.iload_n 1, 1) := by decide +kernel
theorem dX0_addTwo_10 : decode cX0_addTwo 10 = .ok (.invokevirtual 25, 3) := by decide +kernel
theorem dX0_addTwo_13 : decode cX0_addTwo 13 = .ok (.return_, 1) := by decide +kernel
theorem dX0_addFour_0 : decode cX0_addFour 0 = .ok (.aload_n 0, 1) := by decide +kernel
theorem dX0_addFour_1 : decode cX0_addFour 1 = .ok (.getfield 21, 3) := by decide +kernel
theorem dX0_addFour_4 : decode cX0_addFour 4 = .ok (.ifCond .lt 86, 3) := by decide +kernel
theorem dX0_addFour_7 : decode cX0_addFour 7 = .ok (.aload_n 0, 1) := by decide +kernel
theorem dX0_addFour_8 : decode cX0_addFour 8 = .ok (.getfield 21, 3) := by decide +kernel
theorem dX0_addFour_11 : decode cX0_addFour 11 = .ok (.aload_n 0, 1) := by decide +kernel
theorem dX0_addFour_12 : decode cX0_addFour 12 = .ok (.getfield 15, 3) := by decide +kernel
theorem dX0_addFour_15 : decode cX0_addFour 15 = .ok (.arraylength, 1) := by decide +kernel
theorem dX0_addFour_16 : decode cX0_addFour 16 = .ok (.iconst 3, 1) := by decide +kernel
theorem dX0_addFour_17 : decode cX0_addFour 17 = .ok (.isub, 1) := by decide +kernel
theorem dX0_addFour_18 : decode cX0_addFour 18 = .ok (.if_icmp .ge 72, 3) := by decide +kernel
theorem dX0_addFour_21 : decode cX0_addFour 21 = .ok (.aload_n 0, 1) := by decide +kernel
theorem dX0_addFour_22 : decode cX0_addFour 22 = .ok (.getfield 15, 3) := by decide +kernel
theorem dX0_addFour_25 : decode cX0_addFour 25 = .ok (.aload_n 0, 1) := by decide +kernel
theorem dX0_addFour_26 : decode cX0_addFour 26 = .ok (.getfield 21, 3) := by decide +kernel
theorem dX0_addFour_29 : decode cX0_addFour 29 = .ok (.iload_n 1, 1) := by decide +kernel
theorem dX0_addFour_30 : decode cX0_addFour 30 = .ok (.bipush 24, 2) := by decide +kernel
theorem dX0_addFour_32 : decode cX0_addFour 32 = .ok (.iushr, 1) := by decide +kernel
theorem dX0_addFour_33 : decode cX0_addFour 33 = .ok (.i2b, 1) := by decide +kernel
theorem dX0_addFour_34 : decode cX0_addFour 34 = .ok (.bastore, 1) := by decide +kernel
theorem dX0_addFour_35 : decode cX0_addFour 35 = .ok (.aload_n 0, 1) := by decide +kernel
theorem dX0_addFour_36 : decode cX0_addFour 36 = .ok (.getfield 15, 3) := by decide +kernel
theorem dX0_addFour_39 : decode cX0_addFour 39 = .ok (.aload_n 0, 1) := by decide +kernel
theorem dX0_addFour_40 : decode cX0_addFour 40 = .ok (.getfield 21, 3) := by decide +kernel
theorem dX0_addFour_43 : decode cX0_addFour 43 = .ok (.iconst 1, 1) := by decide +kernel
theorem dX0_addFour_44 : decode cX0_addFour 44 = .ok (.iadd, 1) := by decide +kernel
theorem dX0_addFour_45 : decode cX0_addFour 45 = .ok (.iload_n 1, 1) := by decide +kernel
theorem dX0_addFour_46 : decode cX0_addFour 46 = .ok (.bipush 16, 2) := by decide +kernel
theorem dX0_addFour_48 : decode cX0_addFour 48 = .ok (.iushr, 1) := by decide +kernel
theorem dX0_addFour_49 : decode cX0_addFour 49 = .ok (.i2b, 1) := by decide +kernel
theorem dX0_addFour_50 : decode cX0_addFour 50 = .ok (.bastore, 1) := by decide +kernel
theorem dX0_addFour_51 : decode cX0_addFour 51 = .ok (.aload_n 0, 1) := by decide +kernel
theorem dX0_addFour_52 : decode cX0_addFour 52 = .ok (.getfield 15, 3) := by decide +kernel
theorem dX0_addFour_55 : decode cX0_addFour 55 = .ok (.aload_n 0, 1) := by decide +kernel
theorem dX0_addFour_56 : decode cX0_addFour 56 = .ok (.getfield 21, 3) := by decide +kernel
theorem dX0_addFour_59 : decode cX0_addFour 59 = .ok (.iconst 2, 1) := by decide +kernel
theorem dX0_addFour_60 : decode cX0_addFour 60 = .ok (.iadd, 1) := by decide +kernel
theorem dX0_addFour_61 : decode cX0_addFour 61 = .ok (.iload_n 1, 1) := by decide +kernel
theorem dX0_addFour_62 : decode cX0_addFour 62 = .ok (.bipush 8, 2) := by decide +kernel
theorem dX0_addFour_64 : decode cX0_addFour 64 = .ok (.iushr, 1) := by decide +kernel
theorem dX0_addFour_65 : decode cX0_addFour 65 = .ok (.i2b, 1) := by decide +kernel
theorem dX0_addFour_66 : decode cX0_addFour 66 = .ok (.bastore, 1) := by decide +kernel
theorem dX0_addFour_67 : decode cX0_addFour 67 = .ok (.aload_n 0, 1) := by decide +kernel
theorem dX0_addFour_68 : decode cX0_addFour 68 = .ok (.getfield 15, 3) := by decide +kernel
theorem dX0_addFour_71 : decode cX0_addFour 71 = .ok (.aload_n 0, 1) := by decide +kernel
theorem dX0_addFour_72 : decode cX0_addFour 72 = .ok (.getfield 21, 3) := by decide +kernel
theorem dX0_addFour_75 : decode cX0_addFour 75 = .ok (.iconst 3, 1) := by decide +kernel
theorem dX0_addFour_76 : decode cX0_addFour 76 = .ok (.iadd, 1) := by decide +kernel
theorem dX0_addFour_77 : decode cX0_addFour 77 = .ok (.iload_n 1, 1) := by decide +kernel
theorem dX0_addFour_78 : decode cX0_addFour 78 = .ok (.i2b, 1) := by decide +kernel
theorem dX0_addFour_79 : decode cX0_addFour 79 = .ok (.bastore, 1) := by decide +kernel
theorem dX0_addFour_80 : decode cX0_addFour 80 = .ok (.aload_n 0, 1) := by decide +kernel
theorem dX0_addFour_81 : decode cX0_addFour 81 = .ok (.dup, 1) := by decide +kernel
theorem dX0_addFour_82 : decode cX0_addFour 82 = .ok (.getfield 21, 3) := by decide +kernel
theorem dX0_addFour_85 : decode cX0_addFour 85 = .ok (.iconst 4, 1) := by decide +kernel
theorem dX0_addFour_86 : decode cX0_addFour 86 = .ok (.iadd, 1) := by decide +kernel
theorem dX0_addFour_87 : decode cX0_addFour 87 = .ok (.putfield 21, 3) := by decide +kernel
theorem dX0_addFour_90 : decode cX0_addFour 90 = .ok (.return_, 1) := by decide +kernel
theorem dX0_byteOf_0 : decode cX0_byteOf 0 = .ok (.iload_n 1, 1) := by decide +kernel
theorem dX0_byteOf_1 : decode cX0_byteOf 1 = .ok (.ifCond .lt 33, 3) := by decide +kernel
theorem dX0_byteOf_4 : decode cX0_byteOf 4 = .ok (.iload_n 1, 1) := by decide +kernel
theorem dX0_byteOf_5 : decode cX0_byteOf 5 = .ok (.aload_n 0, 1) := by decide +kernel
theorem dX0_byteOf_6 : decode cX0_byteOf 6 = .ok (.getfield 21, 3) := by decide +kernel
theorem dX0_byteOf_9 : decode cX0_byteOf 9 = .ok (.if_icmp .ge 25, 3) := by decide +kernel
theorem dX0_byteOf_12 : decode cX0_byteOf 12 = .ok (.iload_n 1, 1) := by decide +kernel
theorem dX0_byteOf_13 : decode cX0_byteOf 13 = .ok (.aload_n 0, 1) := by decide +kernel
theorem dX0_byteOf_14 : decode cX0_byteOf 14 = .ok (.getfield 15, 3) := by decide +kernel
theorem dX0_byteOf_17 : decode cX0_byteOf 17 = .ok (.arraylength, 1) := by decide +kernel
theorem dX0_byteOf_18 : decode cX0_byteOf 18 = .ok (.if_icmp .ge 16, 3) := by decide +kernel
theorem dX0_byteOf_21 : decode cX0_byteOf 21 = .ok (.aload_n 0, 1) := by decide +kernel
theorem dX0_byteOf_22 : decode cX0_byteOf 22 = .ok (.getfield 15, 3) := by decide +kernel
theorem dX0_byteOf_25 : decode cX0_byteOf 25 = .ok (.iload_n 1, 1) := by decide +kernel
theorem dX0_byteOf_26 : decode cX0_byteOf 26 = .ok (.baload, 1) := by decide +kernel
theorem dX0_byteOf_27 : decode cX0_byteOf 27 = .ok (.sipush 255, 3) := by decide +kernel
theorem dX0_byteOf_30 : decode cX0_byteOf 30 = .ok (.iand, 1) := by decide +kernel
theorem dX0_byteOf_31 : decode cX0_byteOf 31 = .ok (.goto 4, 3) := by decide +kernel
theorem dX0_byteOf_34 : decode cX0_byteOf 34 = .ok (.iconst (-1), 1) := by decide +kernel
theorem dX0_byteOf_35 : decode cX0_byteOf 35 = .ok (.ireturn, 1) := by decide +kernel
theorem dX0_twoAt_0 : decode cX0_twoAt 0 = .ok (.iload_n 1, 1) := by decide +kernel
theorem dX0_twoAt_1 : decode cX0_twoAt 1 = .ok (.ifCond .lt 32, 3) := by decide +kernel
theorem dX0_twoAt_4 : decode cX0_twoAt 4 = .ok (.iload_n 1, 1) := by decide +kernel
theorem dX0_twoAt_5 : decode cX0_twoAt 5 = .ok (.aload_n 0, 1) := by decide +kernel
theorem dX0_twoAt_6 : decode cX0_twoAt 6 = .ok (.getfield 21, 3) := by decide +kernel
theorem dX0_twoAt_9 : decode cX0_twoAt 9 = .ok (.iconst 1, 1) := by decide +kernel
theorem dX0_twoAt_10 : decode cX0_twoAt 10 = .ok (.isub, 1) := by decide +kernel
theorem dX0_twoAt_11 : decode cX0_twoAt 11 = .ok (.if_icmp .ge 22, 3) := by decide +kernel
theorem dX0_twoAt_14 : decode cX0_twoAt 14 = .ok (.aload_n 0, 1) := by decide +kernel
theorem dX0_twoAt_15 : decode cX0_twoAt 15 = .ok (.iload_n 1, 1) := by decide +kernel
theorem dX0_twoAt_16 : decode cX0_twoAt 16 = .ok (.invokevirtual 29, 3) := by decide +kernel
theorem dX0_twoAt_19 : decode cX0_twoAt 19 = .ok (.bipush 8, 2) := by decide +kernel
theorem dX0_twoAt_21 : decode cX0_twoAt 21 = .ok (.ishl, 1) := by decide +kernel
theorem dX0_twoAt_22 : decode cX0_twoAt 22 = .ok (.aload_n 0, 1) := by decide +kernel
theorem dX0_twoAt_23 : decode cX0_twoAt 23 = .ok (.iload_n 1, 1) := by decide +kernel
theorem dX0_twoAt_24 : decode cX0_twoAt 24 = .ok (.iconst 1, 1) := by decide +kernel
theorem dX0_twoAt_25 : decode cX0_twoAt 25 = .ok (.iadd, 1) := by decide +kernel
theorem dX0_twoAt_26 : decode cX0_twoAt 26 = .ok (.invokevirtual 29, 3) := by decide +kernel
theorem dX0_twoAt_29 : decode cX0_twoAt 29 = .ok (.ior, 1) := by decide +kernel
theorem dX0_twoAt_30 : decode cX0_twoAt 30 = .ok (.goto 4, 3) := by decide +kernel
theorem dX0_twoAt_33 : decode cX0_twoAt 33 = .ok (.iconst (-1), 1) := by decide +kernel
theorem dX0_twoAt_34 : decode cX0_twoAt 34 = .ok (.ireturn, 1) := by decide +kernel
theorem dX0_fourAt_0 : decode cX0_fourAt 0 = .ok (.iload_n 1, 1) := by decide +kernel
theorem dX0_fourAt_1 : decode cX0_fourAt 1 = .ok (.ifCond .lt 32, 3) := by decide +kernel
theorem dX0_fourAt_4 : decode cX0_fourAt 4 = .ok (.iload_n 1, 1) := by decide +kernel
theorem dX0_fourAt_5 : decode cX0_fourAt 5 = .ok (.aload_n 0, 1) := by decide +kernel
theorem dX0_fourAt_6 : decode cX0_fourAt 6 = .ok (.getfield 21, 3) := by decide +kernel
theorem dX0_fourAt_9 : decode cX0_fourAt 9 = .ok (.iconst 3, 1) := by decide +kernel
theorem dX0_fourAt_10 : decode cX0_fourAt 10 = .ok (.isub, 1) := by decide +kernel
theorem dX0_fourAt_11 : decode cX0_fourAt 11 = .ok (.if_icmp .ge 22, 3) := by decide +kernel
theorem dX0_fourAt_14 : decode cX0_fourAt 14 = .ok (.aload_n 0, 1) := by decide +kernel
theorem dX0_fourAt_15 : decode cX0_fourAt 15 = .ok (.iload_n 1, 1) := by decide +kernel
theorem dX0_fourAt_16 : decode cX0_fourAt 16 = .ok (.invokevirtual 33, 3) := by decide +kernel
theorem dX0_fourAt_19 : decode cX0_fourAt 19 = .ok (.bipush 16, 2) := by decide +kernel
theorem dX0_fourAt_21 : decode cX0_fourAt 21 = .ok (.ishl, 1) := by decide +kernel
theorem dX0_fourAt_22 : decode cX0_fourAt 22 = .ok (.aload_n 0, 1) := by decide +kernel
theorem dX0_fourAt_23 : decode cX0_fourAt 23 = .ok (.iload_n 1, 1) := by decide +kernel
theorem dX0_fourAt_24 : decode cX0_fourAt 24 = .ok (.iconst 2, 1) := by decide +kernel
theorem dX0_fourAt_25 : decode cX0_fourAt 25 = .ok (.iadd, 1) := by decide +kernel
theorem dX0_fourAt_26 : decode cX0_fourAt 26 = .ok (.invokevirtual 33, 3) := by decide +kernel
theorem dX0_fourAt_29 : decode cX0_fourAt 29 = .ok (.ior, 1) := by decide +kernel
theorem dX0_fourAt_30 : decode cX0_fourAt 30 = .ok (.goto 4, 3) := by decide +kernel
theorem dX0_fourAt_33 : decode cX0_fourAt 33 = .ok (.iconst (-1), 1) := by decide +kernel
theorem dX0_fourAt_34 : decode cX0_fourAt 34 = .ok (.ireturn, 1) := by decide +kernel
theorem dX0_copyFrom_0 : decode cX0_copyFrom 0 = .ok (.aload_n 0, 1) := by decide +kernel
theorem dX0_copyFrom_1 : decode cX0_copyFrom 1 = .ok (.aload_n 1, 1) := by decide +kernel
theorem dX0_copyFrom_2 : decode cX0_copyFrom 2 = .ok (.getfield 21, 3) := by decide +kernel
theorem dX0_copyFrom_5 : decode cX0_copyFrom 5 = .ok (.aload_n 0, 1) := by decide +kernel
theorem dX0_copyFrom_6 : decode cX0_copyFrom 6 = .ok (.getfield 15, 3) := by decide +kernel
theorem dX0_copyFrom_9 : decode cX0_copyFrom 9 = .ok (.arraylength, 1) := by decide +kernel
theorem dX0_copyFrom_10 : decode cX0_copyFrom 10 = .ok (.invokestatic 36, 3) := by decide +kernel
theorem dX0_copyFrom_13 : decode cX0_copyFrom 13 = .ok (.putfield 21, 3) := by decide +kernel
theorem dX0_copyFrom_16 : decode cX0_copyFrom 16 = .ok (.aload_n 1, 1) := by decide +kernel
theorem dX0_copyFrom_17 : decode cX0_copyFrom 17 = .ok (.getfield 15, 3) := by decide +kernel
theorem dX0_copyFrom_20 : decode cX0_copyFrom 20 = .ok (.iconst 0, 1) := by decide +kernel
theorem dX0_copyFrom_21 : decode cX0_copyFrom 21 = .ok (.aload_n 0, 1) := by decide +kernel
theorem dX0_copyFrom_22 : decode cX0_copyFrom 22 = .ok (.getfield 15, 3) := by decide +kernel
theorem dX0_copyFrom_25 : decode cX0_copyFrom 25 = .ok (.iconst 0, 1) := by decide +kernel
theorem dX0_copyFrom_26 : decode cX0_copyFrom 26 = .ok (.aload_n 0, 1) := by decide +kernel
theorem dX0_copyFrom_27 : decode cX0_copyFrom 27 = .ok (.getfield 21, 3) := by decide +kernel
theorem dX0_copyFrom_30 : decode cX0_copyFrom 30 = .ok (.invokestatic 39, 3) := by decide +kernel
theorem dX0_copyFrom_33 : decode cX0_copyFrom 33 = .ok (.return_, 1) := by decide +kernel
theorem dX0_isAlike_0 : decode cX0_isAlike 0 = .ok (.iconst 0, 1) := by decide +kernel
theorem dX0_isAlike_1 : decode cX0_isAlike 1 = .ok (.istore 5, 2) := by decide +kernel
theorem dX0_isAlike_3 : decode cX0_isAlike 3 = .ok (.iload 5, 2) := by decide +kernel
theorem dX0_isAlike_5 : decode cX0_isAlike 5 = .ok (.iload 4, 2) := by decide +kernel
theorem dX0_isAlike_7 : decode cX0_isAlike 7 = .ok (.if_icmp .ge 30, 3) := by decide +kernel
theorem dX0_isAlike_10 : decode cX0_isAlike 10 = .ok (.aload_n 0, 1) := by decide +kernel
theorem dX0_isAlike_11 : decode cX0_isAlike 11 = .ok (.iload_n 1, 1) := by decide +kernel
theorem dX0_isAlike_12 : decode cX0_isAlike 12 = .ok (.iload 5, 2) := by decide +kernel
theorem dX0_isAlike_14 : decode cX0_isAlike 14 = .ok (.iadd, 1) := by decide +kernel
theorem dX0_isAlike_15 : decode cX0_isAlike 15 = .ok (.invokevirtual 29, 3) := by decide +kernel
theorem dX0_isAlike_18 : decode cX0_isAlike 18 = .ok (.aload_n 2, 1) := by decide +kernel
theorem dX0_isAlike_19 : decode cX0_isAlike 19 = .ok (.iload_n 3, 1) := by decide +kernel
theorem dX0_isAlike_20 : decode cX0_isAlike 20 = .ok (.iload 5, 2) := by decide +kernel
theorem dX0_isAlike_22 : decode cX0_isAlike 22 = .ok (.iadd, 1) := by decide +kernel
theorem dX0_isAlike_23 : decode cX0_isAlike 23 = .ok (.invokevirtual 29, 3) := by decide +kernel
theorem dX0_isAlike_26 : decode cX0_isAlike 26 = .ok (.if_icmp .eq 5, 3) := by decide +kernel
theorem dX0_isAlike_29 : decode cX0_isAlike 29 = .ok (.iconst 0, 1) := by decide +kernel
theorem dX0_isAlike_30 : decode cX0_isAlike 30 = .ok (.ireturn, 1) := by decide +kernel
theorem dX0_isAlike_31 : decode cX0_isAlike 31 = .ok (.iinc 5 1, 3) := by decide +kernel
theorem dX0_isAlike_34 : decode cX0_isAlike 34 = .ok (.goto (-31), 3) := by decide +kernel
theorem dX0_isAlike_37 : decode cX0_isAlike 37 = .ok (.iconst 1, 1) := by decide +kernel
theorem dX0_isAlike_38 : decode cX0_isAlike 38 = .ok (.ireturn, 1) := by decide +kernel
theorem dX1_init_0 : decode cX1_init 0 = .ok (.aload_n 0, 1) := by decide +kernel
theorem dX1_init_1 : decode cX1_init 1 = .ok (.invokespecial 3, 3) := by decide +kernel
theorem dX1_init_4 : decode cX1_init 4 = .ok (.aload_n 0, 1) := by decide +kernel
theorem dX1_init_5 : decode cX1_init 5 = .ok (.iconst 4, 1) := by decide +kernel
theorem dX1_init_6 : decode cX1_init 6 = .ok (.anewarray 9, 3) := by decide +kernel
theorem dX1_init_9 : decode cX1_init 9 = .ok (.putfield 11, 3) := by decide +kernel
theorem dX1_init_12 : decode cX1_init 12 = .ok (.aload_n 0, 1) := by decide +kernel
theorem dX1_init_13 : decode cX1_init 13 = .ok (.iconst 4, 1) := by decide +kernel
theorem dX1_init_14 : decode cX1_init 14 = .ok (.newarray .int, 2) := by decide +kernel
theorem dX1_init_16 : decode cX1_init 16 = .ok (.putfield 17, 3) := by decide +kernel
theorem dX1_init_19 : decode cX1_init 19 = .ok (.aload_n 0, 1) := by decide +kernel
theorem dX1_init_20 : decode cX1_init 20 = .ok (.iconst 1, 1) := by decide +kernel
theorem dX1_init_21 : decode cX1_init 21 = .ok (.putfield 21, 3) := by decide +kernel
theorem dX1_init_24 : decode cX1_init 24 = .ok (.iconst 0, 1) := by decide +kernel
theorem dX1_init_25 : decode cX1_init 25 = .ok (.istore_n 1, 1) := by decide +kernel
theorem dX1_init_26 : decode cX1_init 26 = .ok (.iload_n 1, 1) := by decide +kernel
theorem dX1_init_27 : decode cX1_init 27 = .ok (.iconst 4, 1) := by decide +kernel
theorem dX1_init_28 : decode cX1_init 28 = .ok (.if_icmp .ge 24, 3) := by decide +kernel
theorem dX1_init_31 : decode cX1_init 31 = .ok (.aload_n 0, 1) := by decide +kernel
theorem dX1_init_32 : decode cX1_init 32 = .ok (.getfield 11, 3) := by decide +kernel
theorem dX1_init_35 : decode cX1_init 35 = .ok (.iload_n 1, 1) := by decide +kernel
theorem dX1_init_36 : decode cX1_init 36 = .ok (.new 9, 3) := by decide +kernel
theorem dX1_init_39 : decode cX1_init 39 = .ok (.dup, 1) := by decide +kernel
theorem dX1_init_40 : decode cX1_init 40 = .ok (.bipush 48, 2) := by decide +kernel
theorem dX1_init_42 : decode cX1_init 42 = .ok (.invokespecial 25, 3) := by decide +kernel
theorem dX1_init_45 : decode cX1_init 45 = .ok (.aastore, 1) := by decide +kernel
theorem dX1_init_46 : decode cX1_init 46 = .ok (.iinc 1 1, 3) := by decide +kernel
theorem dX1_init_49 : decode cX1_init 49 = .ok (.goto (-23), 3) := by decide +kernel
theorem dX1_init_52 : decode cX1_init 52 = .ok (.return_, 1) := by decide +kernel
theorem dX1_replaceRow_0 : decode cX1_replaceRow 0 = .ok (.aload_n 0, 1) := by decide +kernel
theorem dX1_replaceRow_1 : decode cX1_replaceRow 1 = .ok (.iload_n 1, 1) := by decide +kernel
theorem dX1_replaceRow_2 : decode cX1_replaceRow 2 = .ok (.invokevirtual 28, 3) := by decide +kernel
theorem dX1_replaceRow_5 : decode cX1_replaceRow 5 = .ok (.aload_n 2, 1) := by decide +kernel
theorem dX1_replaceRow_6 : decode cX1_replaceRow 6 = .ok (.invokevirtual 32, 3) := by decide +kernel
theorem dX1_replaceRow_9 : decode cX1_replaceRow 9 = .ok (.return_, 1) := by decide +kernel
theorem dX1_emptyRow_0 : decode cX1_emptyRow 0 = .ok (.iload_n 1, 1) := by decide +kernel
theorem dX1_emptyRow_1 : decode cX1_emptyRow 1 = .ok (.invokestatic 36, 3) := by decide +kernel
theorem dX1_emptyRow_4 : decode cX1_emptyRow 4 = .ok (.ifCond .eq 7, 3) := by decide +kernel
theorem dX1_emptyRow_7 : decode cX1_emptyRow 7 = .ok (.iload_n 1, 1) := by decide +kernel
theorem dX1_emptyRow_8 : decode cX1_emptyRow 8 = .ok (.goto 4, 3) := by decide +kernel
theorem dX1_emptyRow_11 : decode cX1_emptyRow 11 = .ok (.iconst 0, 1) := by decide +kernel
theorem dX1_emptyRow_12 : decode cX1_emptyRow 12 = .ok (.istore_n 2, 1) := by decide +kernel
theorem dX1_emptyRow_13 : decode cX1_emptyRow 13 = .ok (.aload_n 0, 1) := by decide +kernel
theorem dX1_emptyRow_14 : decode cX1_emptyRow 14 = .ok (.getfield 17, 3) := by decide +kernel
theorem dX1_emptyRow_17 : decode cX1_emptyRow 17 = .ok (.iload_n 2, 1) := by decide +kernel
theorem dX1_emptyRow_18 : decode cX1_emptyRow 18 = .ok (.iconst 0, 1) := by decide +kernel
theorem dX1_emptyRow_19 : decode cX1_emptyRow 19 = .ok (.iastore, 1) := by decide +kernel
theorem dX1_emptyRow_20 : decode cX1_emptyRow 20 = .ok (.aload_n 0, 1) := by decide +kernel
theorem dX1_emptyRow_21 : decode cX1_emptyRow 21 = .ok (.getfield 11, 3) := by decide +kernel
theorem dX1_emptyRow_24 : decode cX1_emptyRow 24 = .ok (.iload_n 2, 1) := by decide +kernel
theorem dX1_emptyRow_25 : decode cX1_emptyRow 25 = .ok (.aaload, 1) := by decide +kernel
theorem dX1_emptyRow_26 : decode cX1_emptyRow 26 = .ok (.iconst 0, 1) := by decide +kernel
theorem dX1_emptyRow_27 : decode cX1_emptyRow 27 = .ok (.putfield 40, 3) := by decide +kernel
theorem dX1_emptyRow_30 : decode cX1_emptyRow 30 = .ok (.aload_n 0, 1) := by decide +kernel
theorem dX1_emptyRow_31 : decode cX1_emptyRow 31 = .ok (.getfield 11, 3) := by decide +kernel
theorem dX1_emptyRow_34 : decode cX1_emptyRow 34 = .ok (.iload_n 2, 1) := by decide +kernel
theorem dX1_emptyRow_35 : decode cX1_emptyRow 35 = .ok (.aaload, 1) := by decide +kernel
theorem dX1_emptyRow_36 : decode cX1_emptyRow 36 = .ok (.areturn, 1) := by decide +kernel
theorem dX2_init_0 : decode cX2_init 0 = .ok (.aload_n 0, 1) := by decide +kernel
theorem dX2_init_1 : decode cX2_init 1 = .ok (.invokespecial 3, 3) := by decide +kernel
theorem dX2_init_4 : decode cX2_init 4 = .ok (.aload_n 0, 1) := by decide +kernel
theorem dX2_init_5 : decode cX2_init 5 = .ok (.new 9, 3) := by decide +kernel
theorem dX2_init_8 : decode cX2_init 8 = .ok (.dup, 1) := by decide +kernel
theorem dX2_init_9 : decode cX2_init 9 = .ok (.invokespecial 11, 3) := by decide +kernel
theorem dX2_init_12 : decode cX2_init 12 = .ok (.putfield 12, 3) := by decide +kernel
theorem dX2_init_15 : decode cX2_init 15 = .ok (.aload_n 0, 1) := by decide +kernel
theorem dX2_init_16 : decode cX2_init 16 = .ok (.iconst 0, 1) := by decide +kernel
theorem dX2_init_17 : decode cX2_init 17 = .ok (.putfield 18, 3) := by decide +kernel
theorem dX2_init_20 : decode cX2_init 20 = .ok (.aload_n 0, 1) := by decide +kernel
theorem dX2_init_21 : decode cX2_init 21 = .ok (.bipush 8, 2) := by decide +kernel
theorem dX2_init_23 : decode cX2_init 23 = .ok (.putfield 22, 3) := by decide +kernel
theorem dX2_init_26 : decode cX2_init 26 = .ok (.aload_n 0, 1) := by decide +kernel
theorem dX2_init_27 : decode cX2_init 27 = .ok (.iconst (-1), 1) := by decide +kernel
theorem dX2_init_28 : decode cX2_init 28 = .ok (.putfield 25, 3) := by decide +kernel
theorem dX2_init_31 : decode cX2_init 31 = .ok (.aload_n 0, 1) := by decide +kernel
theorem dX2_init_32 : decode cX2_init 32 = .ok (.iconst (-1), 1) := by decide +kernel
theorem dX2_init_33 : decode cX2_init 33 = .ok (.putfield 28, 3) := by decide +kernel
theorem dX2_init_36 : decode cX2_init 36 = .ok (.return_, 1) := by decide +kernel
theorem dX3_init_0 : decode cX3_init 0 = .ok (.aload_n 0, 1) := by decide +kernel
theorem dX3_init_1 : decode cX3_init 1 = .ok (.invokespecial 3, 3) := by decide +kernel
theorem dX3_init_4 : decode cX3_init 4 = .ok (.aload_n 0, 1) := by decide +kernel
theorem dX3_init_5 : decode cX3_init 5 = .ok (.new 9, 3) := by decide +kernel
theorem dX3_init_8 : decode cX3_init 8 = .ok (.dup, 1) := by decide +kernel
theorem dX3_init_9 : decode cX3_init 9 = .ok (.sipush 1536, 3) := by decide +kernel
theorem dX3_init_12 : decode cX3_init 12 = .ok (.invokespecial 13, 3) := by decide +kernel
theorem dX3_init_15 : decode cX3_init 15 = .ok (.putfield 16, 3) := by decide +kernel
theorem dX3_init_18 : decode cX3_init 18 = .ok (.aload_n 0, 1) := by decide +kernel
theorem dX3_init_19 : decode cX3_init 19 = .ok (.iconst 1, 1) := by decide +kernel
theorem dX3_init_20 : decode cX3_init 20 = .ok (.putfield 20, 3) := by decide +kernel
theorem dX3_init_23 : decode cX3_init 23 = .ok (.aload_n 0, 1) := by decide +kernel
theorem dX3_init_24 : decode cX3_init 24 = .ok (.iconst (-1), 1) := by decide +kernel
theorem dX3_init_25 : decode cX3_init 25 = .ok (.putfield 24, 3) := by decide +kernel
theorem dX3_init_28 : decode cX3_init 28 = .ok (.aload_n 0, 1) := by decide +kernel
theorem dX3_init_29 : decode cX3_init 29 = .ok (.iconst 1, 1) := by decide +kernel
theorem dX3_init_30 : decode cX3_init 30 = .ok (.putfield 27, 3) := by decide +kernel
theorem dX3_init_33 : decode cX3_init 33 = .ok (.return_, 1) := by decide +kernel
theorem dX3_beginLook_0 : decode cX3_beginLook 0 = .ok (.aload_n 0, 1) := by decide +kernel
theorem dX3_beginLook_1 : decode cX3_beginLook 1 = .ok (.iconst 0, 1) := by decide +kernel
theorem dX3_beginLook_2 : decode cX3_beginLook 2 = .ok (.putfield 31, 3) := by decide +kernel
theorem dX3_beginLook_5 : decode cX3_beginLook 5 = .ok (.aload_n 0, 1) := by decide +kernel
theorem dX3_beginLook_6 : decode cX3_beginLook 6 = .ok (.aload_n 0, 1) := by decide +kernel
theorem dX3_beginLook_7 : decode cX3_beginLook 7 = .ok (.getfield 24, 3) := by decide +kernel
theorem dX3_beginLook_10 : decode cX3_beginLook 10 = .ok (.ifCond .eq 7, 3) := by decide +kernel
theorem dX3_beginLook_13 : decode cX3_beginLook 13 = .ok (.iconst 1, 1) := by decide +kernel
theorem dX3_beginLook_14 : decode cX3_beginLook 14 = .ok (.goto 4, 3) := by decide +kernel
theorem dX3_beginLook_17 : decode cX3_beginLook 17 = .ok (.iconst 0, 1) := by decide +kernel
theorem dX3_beginLook_18 : decode cX3_beginLook 18 = .ok (.putfield 27, 3) := by decide +kernel
theorem dX3_beginLook_21 : decode cX3_beginLook 21 = .ok (.return_, 1) := by decide +kernel
theorem dX3_endLook_0 : decode cX3_endLook 0 = .ok (.aload_n 0, 1) := by decide +kernel
theorem dX3_endLook_1 : decode cX3_endLook 1 = .ok (.getfield 24, 3) := by decide +kernel
theorem dX3_endLook_4 : decode cX3_endLook 4 = .ok (.iconst (-1), 1) := by decide +kernel
theorem dX3_endLook_5 : decode cX3_endLook 5 = .ok (.if_icmp .eq 7, 3) := by decide +kernel
theorem dX3_endLook_8 : decode cX3_endLook 8 = .ok (.iconst 1, 1) := by decide +kernel
theorem dX3_endLook_9 : decode cX3_endLook 9 = .ok (.goto 4, 3) := by decide +kernel
theorem dX3_endLook_12 : decode cX3_endLook 12 = .ok (.iconst 0, 1) := by decide +kernel
theorem dX3_endLook_13 : decode cX3_endLook 13 = .ok (.istore_n 1, 1) := by decide +kernel
theorem dX3_endLook_14 : decode cX3_endLook 14 = .ok (.aload_n 0, 1) := by decide +kernel
theorem dX3_endLook_15 : decode cX3_endLook 15 = .ok (.iconst (-1), 1) := by decide +kernel
theorem dX3_endLook_16 : decode cX3_endLook 16 = .ok (.putfield 24, 3) := by decide +kernel
theorem dX3_endLook_19 : decode cX3_endLook 19 = .ok (.aload_n 0, 1) := by decide +kernel
theorem dX3_endLook_20 : decode cX3_endLook 20 = .ok (.iconst 1, 1) := by decide +kernel
theorem dX3_endLook_21 : decode cX3_endLook 21 = .ok (.putfield 27, 3) := by decide +kernel
theorem dX3_endLook_24 : decode cX3_endLook 24 = .ok (.iload_n 1, 1) := by decide +kernel
theorem dX3_endLook_25 : decode cX3_endLook 25 = .ok (.ireturn, 1) := by decide +kernel
theorem dX3_write_0 : decode cX3_write 0 = .ok (.aload_n 0, 1) := by decide +kernel
theorem dX3_write_1 : decode cX3_write 1 = .ok (.getfield 27, 3) := by decide +kernel
theorem dX3_write_4 : decode cX3_write 4 = .ok (.ifCond .eq 33, 3) := by decide +kernel
theorem dX3_write_7 : decode cX3_write 7 = .ok (.aload_n 0, 1) := by decide +kernel
theorem dX3_write_8 : decode cX3_write 8 = .ok (.getfield 34, 3) := by decide +kernel
theorem dX3_write_11 : decode cX3_write 11 = .ok (.bipush 96, 2) := by decide +kernel
theorem dX3_write_13 : decode cX3_write 13 = .ok (.if_icmp .lt 24, 3) := by decide +kernel
theorem dX3_write_16 : decode cX3_write 16 = .ok (.aload_n 0, 1) := by decide +kernel
theorem dX3_write_17 : decode cX3_write 17 = .ok (.bipush 8, 2) := by decide +kernel
theorem dX3_write_19 : decode cX3_write 19 = .ok (.invokevirtual 37, 3) := by decide +kernel
theorem dX3_write_22 : decode cX3_write 22 = .ok (.aload_n 0, 1) := by decide +kernel
theorem dX3_write_23 : decode cX3_write 23 = .ok (.iconst 1, 1) := by decide +kernel
theorem dX3_write_24 : decode cX3_write 24 = .ok (.putfield 40, 3) := by decide +kernel
theorem dX3_write_27 : decode cX3_write 27 = .ok (.aload_n 0, 1) := by decide +kernel
theorem dX3_write_28 : decode cX3_write 28 = .ok (.iload_n 1, 1) := by decide +kernel
theorem dX3_write_29 : decode cX3_write 29 = .ok (.bipush 30, 2) := by decide +kernel
theorem dX3_write_31 : decode cX3_write 31 = .ok (.iconst 2, 1) := by decide +kernel
theorem dX3_write_32 : decode cX3_write 32 = .ok (.iconst (-1), 1) := by decide +kernel
theorem dX3_write_33 : decode cX3_write 33 = .ok (.iconst 0, 1) := by decide +kernel
theorem dX3_write_34 : decode cX3_write 34 = .ok (.invokevirtual 43, 3) := by decide +kernel
theorem dX3_write_37 : decode cX3_write 37 = .ok (.aload_n 0, 1) := by decide +kernel
theorem dX3_write_38 : decode cX3_write 38 = .ok (.getfield 27, 3) := by decide +kernel
theorem dX3_write_41 : decode cX3_write 41 = .ok (.ifCond .ne 5, 3) := by decide +kernel
theorem dX3_write_44 : decode cX3_write 44 = .ok (.iconst 0, 1) := by decide +kernel
theorem dX3_write_45 : decode cX3_write 45 = .ok (.ireturn, 1) := by decide +kernel
theorem dX3_write_46 : decode cX3_write 46 = .ok (.aload_n 0, 1) := by decide +kernel
theorem dX3_write_47 : decode cX3_write 47 = .ok (.iload_n 1, 1) := by decide +kernel
theorem dX3_write_48 : decode cX3_write 48 = .ok (.iload_n 2, 1) := by decide +kernel
theorem dX3_write_49 : decode cX3_write 49 = .ok (.iload_n 3, 1) := by decide +kernel
theorem dX3_write_50 : decode cX3_write 50 = .ok (.iload 4, 2) := by decide +kernel
theorem dX3_write_52 : decode cX3_write 52 = .ok (.iload 5, 2) := by decide +kernel
theorem dX3_write_54 : decode cX3_write 54 = .ok (.invokevirtual 43, 3) := by decide +kernel
theorem dX3_write_57 : decode cX3_write 57 = .ok (.iconst 1, 1) := by decide +kernel
theorem dX3_write_58 : decode cX3_write 58 = .ok (.ireturn, 1) := by decide +kernel
theorem dX3_append_0 : decode cX3_append 0 = .ok (.aload_n 0, 1) := by decide +kernel
theorem dX3_append_1 : decode cX3_append 1 = .ok (.getfield 16, 3) := by decide +kernel
theorem dX3_append_4 : decode cX3_append 4 = .ok (.aload_n 0, 1) := by decide +kernel
theorem dX3_append_5 : decode cX3_append 5 = .ok (.getfield 20, 3) := by decide +kernel
theorem dX3_append_8 : decode cX3_append 8 = .ok (.invokevirtual 47, 3) := by decide +kernel
theorem dX3_append_11 : decode cX3_append 11 = .ok (.aload_n 0, 1) := by decide +kernel
theorem dX3_append_12 : decode cX3_append 12 = .ok (.getfield 16, 3) := by decide +kernel
theorem dX3_append_15 : decode cX3_append 15 = .ok (.iload_n 1, 1) := by decide +kernel
theorem dX3_append_16 : decode cX3_append 16 = .ok (.invokevirtual 47, 3) := by decide +kernel
theorem dX3_append_19 : decode cX3_append 19 = .ok (.aload_n 0, 1) := by decide +kernel
theorem dX3_append_20 : decode cX3_append 20 = .ok (.getfield 16, 3) := by decide +kernel
theorem dX3_append_23 : decode cX3_append 23 = .ok (.iload_n 2, 1) := by decide +kernel
theorem dX3_append_24 : decode cX3_append 24 = .ok (.invokevirtual 50, 3) := by decide +kernel
theorem dX3_append_27 : decode cX3_append 27 = .ok (.aload_n 0, 1) := by decide +kernel
theorem dX3_append_28 : decode cX3_append 28 = .ok (.getfield 16, 3) := by decide +kernel
theorem dX3_append_31 : decode cX3_append 31 = .ok (.iload_n 3, 1) := by decide +kernel
theorem dX3_append_32 : decode cX3_append 32 = .ok (.invokevirtual 50, 3) := by decide +kernel
theorem dX3_append_35 : decode cX3_append 35 = .ok (.aload_n 0, 1) := by decide +kernel
theorem dX3_append_36 : decode cX3_append 36 = .ok (.getfield 16, 3) := by decide +kernel
theorem dX3_append_39 : decode cX3_append 39 = .ok (.iload 4, 2) := by decide +kernel
theorem dX3_append_41 : decode cX3_append 41 = .ok (.invokevirtual 50, 3) := by decide +kernel
theorem dX3_append_44 : decode cX3_append 44 = .ok (.aload_n 0, 1) := by decide +kernel
theorem dX3_append_45 : decode cX3_append 45 = .ok (.getfield 16, 3) := by decide +kernel
theorem dX3_append_48 : decode cX3_append 48 = .ok (.iconst 0, 1) := by decide +kernel
theorem dX3_append_49 : decode cX3_append 49 = .ok (.invokevirtual 50, 3) := by decide +kernel
theorem dX3_append_52 : decode cX3_append 52 = .ok (.aload_n 0, 1) := by decide +kernel
theorem dX3_append_53 : decode cX3_append 53 = .ok (.getfield 16, 3) := by decide +kernel
theorem dX3_append_56 : decode cX3_append 56 = .ok (.iload 5, 2) := by decide +kernel
theorem dX3_append_58 : decode cX3_append 58 = .ok (.invokevirtual 47, 3) := by decide +kernel
theorem dX3_append_61 : decode cX3_append 61 = .ok (.aload_n 0, 1) := by decide +kernel
theorem dX3_append_62 : decode cX3_append 62 = .ok (.dup, 1) := by decide +kernel
theorem dX3_append_63 : decode cX3_append 63 = .ok (.getfield 20, 3) := by decide +kernel
theorem dX3_append_66 : decode cX3_append 66 = .ok (.iconst 1, 1) := by decide +kernel
theorem dX3_append_67 : decode cX3_append 67 = .ok (.iadd, 1) := by decide +kernel
theorem dX3_append_68 : decode cX3_append 68 = .ok (.putfield 20, 3) := by decide +kernel
theorem dX3_append_71 : decode cX3_append 71 = .ok (.aload_n 0, 1) := by decide +kernel
theorem dX3_append_72 : decode cX3_append 72 = .ok (.dup, 1) := by decide +kernel
theorem dX3_append_73 : decode cX3_append 73 = .ok (.getfield 34, 3) := by decide +kernel
theorem dX3_append_76 : decode cX3_append 76 = .ok (.iconst 1, 1) := by decide +kernel
theorem dX3_append_77 : decode cX3_append 77 = .ok (.iadd, 1) := by decide +kernel
theorem dX3_append_78 : decode cX3_append 78 = .ok (.putfield 34, 3) := by decide +kernel
theorem dX3_append_81 : decode cX3_append 81 = .ok (.aload_n 0, 1) := by decide +kernel
theorem dX3_append_82 : decode cX3_append 82 = .ok (.dup, 1) := by decide +kernel
theorem dX3_append_83 : decode cX3_append 83 = .ok (.getfield 31, 3) := by decide +kernel
theorem dX3_append_86 : decode cX3_append 86 = .ok (.iconst 1, 1) := by decide +kernel
theorem dX3_append_87 : decode cX3_append 87 = .ok (.iadd, 1) := by decide +kernel
theorem dX3_append_88 : decode cX3_append 88 = .ok (.putfield 31, 3) := by decide +kernel
theorem dX3_append_91 : decode cX3_append 91 = .ok (.aload_n 0, 1) := by decide +kernel
theorem dX3_append_92 : decode cX3_append 92 = .ok (.aload_n 0, 1) := by decide +kernel
theorem dX3_append_93 : decode cX3_append 93 = .ok (.getfield 31, 3) := by decide +kernel
theorem dX3_append_96 : decode cX3_append 96 = .ok (.aload_n 0, 1) := by decide +kernel
theorem dX3_append_97 : decode cX3_append 97 = .ok (.getfield 24, 3) := by decide +kernel
theorem dX3_append_100 : decode cX3_append 100 = .ok (.if_icmp .eq 7, 3) := by decide +kernel
theorem dX3_append_103 : decode cX3_append 103 = .ok (.iconst 1, 1) := by decide +kernel
theorem dX3_append_104 : decode cX3_append 104 = .ok (.goto 4, 3) := by decide +kernel
theorem dX3_append_107 : decode cX3_append 107 = .ok (.iconst 0, 1) := by decide +kernel
theorem dX3_append_108 : decode cX3_append 108 = .ok (.putfield 27, 3) := by decide +kernel
theorem dX3_append_111 : decode cX3_append 111 = .ok (.return_, 1) := by decide +kernel
theorem dX3_dropOldest_0 : decode cX3_dropOldest 0 = .ok (.iconst 0, 1) := by decide +kernel
theorem dX3_dropOldest_1 : decode cX3_dropOldest 1 = .ok (.iload_n 1, 1) := by decide +kernel
theorem dX3_dropOldest_2 : decode cX3_dropOldest 2 = .ok (.aload_n 0, 1) := by decide +kernel
theorem dX3_dropOldest_3 : decode cX3_dropOldest 3 = .ok (.getfield 34, 3) := by decide +kernel
theorem dX3_dropOldest_6 : decode cX3_dropOldest 6 = .ok (.invokestatic 53, 3) := by decide +kernel
theorem dX3_dropOldest_9 : decode cX3_dropOldest 9 = .ok (.invokestatic 59, 3) := by decide +kernel
theorem dX3_dropOldest_12 : decode cX3_dropOldest 12 = .ok (.istore_n 2, 1) := by decide +kernel
theorem dX3_dropOldest_13 : decode cX3_dropOldest 13 = .ok (.iload_n 2, 1) := by decide +kernel
theorem dX3_dropOldest_14 : decode cX3_dropOldest 14 = .ok (.bipush 16, 2) := by decide +kernel
theorem dX3_dropOldest_16 : decode cX3_dropOldest 16 = .ok (.imul, 1) := by decide +kernel
theorem dX3_dropOldest_17 : decode cX3_dropOldest 17 = .ok (.istore_n 3, 1) := by decide +kernel
theorem dX3_dropOldest_18 : decode cX3_dropOldest 18 = .ok (.aload_n 0, 1) := by decide +kernel
theorem dX3_dropOldest_19 : decode cX3_dropOldest 19 = .ok (.getfield 16, 3) := by decide +kernel
theorem dX3_dropOldest_22 : decode cX3_dropOldest 22 = .ok (.getfield 62, 3) := by decide +kernel
theorem dX3_dropOldest_25 : decode cX3_dropOldest 25 = .ok (.iload_n 3, 1) := by decide +kernel
theorem dX3_dropOldest_26 : decode cX3_dropOldest 26 = .ok (.aload_n 0, 1) := by decide +kernel
theorem dX3_dropOldest_27 : decode cX3_dropOldest 27 = .ok (.getfield 16, 3) := by decide +kernel
theorem dX3_dropOldest_30 : decode cX3_dropOldest 30 = .ok (.getfield 62, 3) := by decide +kernel
theorem dX3_dropOldest_33 : decode cX3_dropOldest 33 = .ok (.iconst 0, 1) := by decide +kernel
theorem dX3_dropOldest_34 : decode cX3_dropOldest 34 = .ok (.aload_n 0, 1) := by decide +kernel
theorem dX3_dropOldest_35 : decode cX3_dropOldest 35 = .ok (.getfield 16, 3) := by decide +kernel
theorem dX3_dropOldest_38 : decode cX3_dropOldest 38 = .ok (.getfield 65, 3) := by decide +kernel
theorem dX3_dropOldest_41 : decode cX3_dropOldest 41 = .ok (.iload_n 3, 1) := by decide +kernel
theorem dX3_dropOldest_42 : decode cX3_dropOldest 42 = .ok (.isub, 1) := by decide +kernel
theorem dX3_dropOldest_43 : decode cX3_dropOldest 43 = .ok (.invokestatic 68, 3) := by decide +kernel
theorem dX3_dropOldest_46 : decode cX3_dropOldest 46 = .ok (.aload_n 0, 1) := by decide +kernel
theorem dX3_dropOldest_47 : decode cX3_dropOldest 47 = .ok (.getfield 16, 3) := by decide +kernel
theorem dX3_dropOldest_50 : decode cX3_dropOldest 50 = .ok (.dup, 1) := by decide +kernel
theorem dX3_dropOldest_51 : decode cX3_dropOldest 51 = .ok (.getfield 65, 3) := by decide +kernel
theorem dX3_dropOldest_54 : decode cX3_dropOldest 54 = .ok (.iload_n 3, 1) := by decide +kernel
theorem dX3_dropOldest_55 : decode cX3_dropOldest 55 = .ok (.isub, 1) := by decide +kernel
theorem dX3_dropOldest_56 : decode cX3_dropOldest 56 = .ok (.putfield 65, 3) := by decide +kernel
theorem dX3_dropOldest_59 : decode cX3_dropOldest 59 = .ok (.aload_n 0, 1) := by decide +kernel
theorem dX3_dropOldest_60 : decode cX3_dropOldest 60 = .ok (.dup, 1) := by decide +kernel
theorem dX3_dropOldest_61 : decode cX3_dropOldest 61 = .ok (.getfield 34, 3) := by decide +kernel
theorem dX3_dropOldest_64 : decode cX3_dropOldest 64 = .ok (.iload_n 2, 1) := by decide +kernel
theorem dX3_dropOldest_65 : decode cX3_dropOldest 65 = .ok (.isub, 1) := by decide +kernel
theorem dX3_dropOldest_66 : decode cX3_dropOldest 66 = .ok (.putfield 34, 3) := by decide +kernel
theorem dX3_dropOldest_69 : decode cX3_dropOldest 69 = .ok (.return_, 1) := by decide +kernel
theorem dX3_clearOldest_0 : decode cX3_clearOldest 0 = .ok (.aload_n 0, 1) := by decide +kernel
theorem dX3_clearOldest_1 : decode cX3_clearOldest 1 = .ok (.iload_n 1, 1) := by decide +kernel
theorem dX3_clearOldest_2 : decode cX3_clearOldest 2 = .ok (.invokevirtual 37, 3) := by decide +kernel
theorem dX3_clearOldest_5 : decode cX3_clearOldest 5 = .ok (.aload_n 0, 1) := by decide +kernel
theorem dX3_clearOldest_6 : decode cX3_clearOldest 6 = .ok (.getfield 34, 3) := by decide +kernel
theorem dX3_clearOldest_9 : decode cX3_clearOldest 9 = .ok (.bipush 64, 2) := by decide +kernel
theorem dX3_clearOldest_11 : decode cX3_clearOldest 11 = .ok (.if_icmp .ge 8, 3) := by decide +kernel
theorem dX3_clearOldest_14 : decode cX3_clearOldest 14 = .ok (.aload_n 0, 1) := by decide +kernel
theorem dX3_clearOldest_15 : decode cX3_clearOldest 15 = .ok (.iconst 0, 1) := by decide +kernel
theorem dX3_clearOldest_16 : decode cX3_clearOldest 16 = .ok (.putfield 40, 3) := by decide +kernel
theorem dX3_clearOldest_19 : decode cX3_clearOldest 19 = .ok (.return_, 1) := by decide +kernel
theorem dX3_oldestNumber_0 : decode cX3_oldestNumber 0 = .ok (.aload_n 0, 1) := by decide +kernel
theorem dX3_oldestNumber_1 : decode cX3_oldestNumber 1 = .ok (.getfield 20, 3) := by decide +kernel
theorem dX3_oldestNumber_4 : decode cX3_oldestNumber 4 = .ok (.aload_n 0, 1) := by decide +kernel
theorem dX3_oldestNumber_5 : decode cX3_oldestNumber 5 = .ok (.getfield 34, 3) := by decide +kernel
theorem dX3_oldestNumber_8 : decode cX3_oldestNumber 8 = .ok (.isub, 1) := by decide +kernel
theorem dX3_oldestNumber_9 : decode cX3_oldestNumber 9 = .ok (.ireturn, 1) := by decide +kernel
theorem dX3_copyOldest_0 : decode cX3_copyOldest 0 = .ok (.iconst 0, 1) := by decide +kernel
theorem dX3_copyOldest_1 : decode cX3_copyOldest 1 = .ok (.istore_n 3, 1) := by decide +kernel
theorem dX3_copyOldest_2 : decode cX3_copyOldest 2 = .ok (.iload_n 3, 1) := by decide +kernel
theorem dX3_copyOldest_3 : decode cX3_copyOldest 3 = .ok (.iload_n 1, 1) := by decide +kernel
theorem dX3_copyOldest_4 : decode cX3_copyOldest 4 = .ok (.bipush 16, 2) := by decide +kernel
theorem dX3_copyOldest_6 : decode cX3_copyOldest 6 = .ok (.imul, 1) := by decide +kernel
theorem dX3_copyOldest_7 : decode cX3_copyOldest 7 = .ok (.if_icmp .ge 21, 3) := by decide +kernel
theorem dX3_copyOldest_10 : decode cX3_copyOldest 10 = .ok (.aload_n 2, 1) := by decide +kernel
theorem dX3_copyOldest_11 : decode cX3_copyOldest 11 = .ok (.aload_n 0, 1) := by decide +kernel
theorem dX3_copyOldest_12 : decode cX3_copyOldest 12 = .ok (.getfield 16, 3) := by decide +kernel
theorem dX3_copyOldest_15 : decode cX3_copyOldest 15 = .ok (.iload_n 3, 1) := by decide +kernel
theorem dX3_copyOldest_16 : decode cX3_copyOldest 16 = .ok (.invokevirtual 74, 3) := by decide +kernel
theorem dX3_copyOldest_19 : decode cX3_copyOldest 19 = .ok (.invokevirtual 50, 3) := by decide +kernel
theorem dX3_copyOldest_22 : decode cX3_copyOldest 22 = .ok (.iinc 3 1, 3) := by decide +kernel
theorem dX3_copyOldest_25 : decode cX3_copyOldest 25 = .ok (.goto (-23), 3) := by decide +kernel
theorem dX3_copyOldest_28 : decode cX3_copyOldest 28 = .ok (.return_, 1) := by decide +kernel
theorem dX3_areOldest_0 : decode cX3_areOldest 0 = .ok (.iload_n 1, 1) := by decide +kernel
theorem dX3_areOldest_1 : decode cX3_areOldest 1 = .ok (.bipush 16, 2) := by decide +kernel
theorem dX3_areOldest_3 : decode cX3_areOldest 3 = .ok (.imul, 1) := by decide +kernel
theorem dX3_areOldest_4 : decode cX3_areOldest 4 = .ok (.istore 4, 2) := by decide +kernel
theorem dX3_areOldest_6 : decode cX3_areOldest 6 = .ok (.aload_n 2, 1) := by decide +kernel
theorem dX3_areOldest_7 : decode cX3_areOldest 7 = .ok (.getfield 65, 3) := by decide +kernel
theorem dX3_areOldest_10 : decode cX3_areOldest 10 = .ok (.iload_n 3, 1) := by decide +kernel
theorem dX3_areOldest_11 : decode cX3_areOldest 11 = .ok (.iload 4, 2) := by decide +kernel
theorem dX3_areOldest_13 : decode cX3_areOldest 13 = .ok (.iadd, 1) := by decide +kernel
theorem dX3_areOldest_14 : decode cX3_areOldest 14 = .ok (.if_icmp .ne 22, 3) := by decide +kernel
theorem dX3_areOldest_17 : decode cX3_areOldest 17 = .ok (.aload_n 2, 1) := by decide +kernel
theorem dX3_areOldest_18 : decode cX3_areOldest 18 = .ok (.iload_n 3, 1) := by decide +kernel
theorem dX3_areOldest_19 : decode cX3_areOldest 19 = .ok (.aload_n 0, 1) := by decide +kernel
theorem dX3_areOldest_20 : decode cX3_areOldest 20 = .ok (.getfield 16, 3) := by decide +kernel
theorem dX3_areOldest_23 : decode cX3_areOldest 23 = .ok (.iconst 0, 1) := by decide +kernel
theorem dX3_areOldest_24 : decode cX3_areOldest 24 = .ok (.iload 4, 2) := by decide +kernel
theorem dX3_areOldest_26 : decode cX3_areOldest 26 = .ok (.invokevirtual 78, 3) := by decide +kernel
theorem dX3_areOldest_29 : decode cX3_areOldest 29 = .ok (.ifCond .eq 7, 3) := by decide +kernel
theorem dX3_areOldest_32 : decode cX3_areOldest 32 = .ok (.iconst 1, 1) := by decide +kernel
theorem dX3_areOldest_33 : decode cX3_areOldest 33 = .ok (.goto 4, 3) := by decide +kernel
theorem dX3_areOldest_36 : decode cX3_areOldest 36 = .ok (.iconst 0, 1) := by decide +kernel
theorem dX3_areOldest_37 : decode cX3_areOldest 37 = .ok (.ireturn, 1) := by decide +kernel
theorem dX3_byteOf_0 : decode cX3_byteOf 0 = .ok (.iload_n 1, 1) := by decide +kernel
theorem dX3_byteOf_1 : decode cX3_byteOf 1 = .ok (.ifCond .lt 21, 3) := by decide +kernel
theorem dX3_byteOf_4 : decode cX3_byteOf 4 = .ok (.iload_n 1, 1) := by decide +kernel
theorem dX3_byteOf_5 : decode cX3_byteOf 5 = .ok (.aload_n 0, 1) := by decide +kernel
theorem dX3_byteOf_6 : decode cX3_byteOf 6 = .ok (.getfield 34, 3) := by decide +kernel
theorem dX3_byteOf_9 : decode cX3_byteOf 9 = .ok (.if_icmp .ge 13, 3) := by decide +kernel
theorem dX3_byteOf_12 : decode cX3_byteOf 12 = .ok (.iload_n 2, 1) := by decide +kernel
theorem dX3_byteOf_13 : decode cX3_byteOf 13 = .ok (.ifCond .lt 9, 3) := by decide +kernel
theorem dX3_byteOf_16 : decode cX3_byteOf 16 = .ok (.iload_n 2, 1) := by decide +kernel
theorem dX3_byteOf_17 : decode cX3_byteOf 17 = .ok (.bipush 16, 2) := by decide +kernel
theorem dX3_byteOf_19 : decode cX3_byteOf 19 = .ok (.if_icmp .lt 5, 3) := by decide +kernel
theorem dX3_byteOf_22 : decode cX3_byteOf 22 = .ok (.iconst (-1), 1) := by decide +kernel
theorem dX3_byteOf_23 : decode cX3_byteOf 23 = .ok (.ireturn, 1) := by decide +kernel
theorem dX3_byteOf_24 : decode cX3_byteOf 24 = .ok (.aload_n 0, 1) := by decide +kernel
theorem dX3_byteOf_25 : decode cX3_byteOf 25 = .ok (.getfield 16, 3) := by decide +kernel
theorem dX3_byteOf_28 : decode cX3_byteOf 28 = .ok (.iload_n 1, 1) := by decide +kernel
theorem dX3_byteOf_29 : decode cX3_byteOf 29 = .ok (.bipush 16, 2) := by decide +kernel
theorem dX3_byteOf_31 : decode cX3_byteOf 31 = .ok (.imul, 1) := by decide +kernel
theorem dX3_byteOf_32 : decode cX3_byteOf 32 = .ok (.iload_n 2, 1) := by decide +kernel
theorem dX3_byteOf_33 : decode cX3_byteOf 33 = .ok (.iadd, 1) := by decide +kernel
theorem dX3_byteOf_34 : decode cX3_byteOf 34 = .ok (.invokevirtual 74, 3) := by decide +kernel
theorem dX3_byteOf_37 : decode cX3_byteOf 37 = .ok (.ireturn, 1) := by decide +kernel
theorem dX4_init_0 : decode cX4_init 0 = .ok (.aload_n 0, 1) := by decide +kernel
theorem dX4_init_1 : decode cX4_init 1 = .ok (.invokespecial 3, 3) := by decide +kernel
theorem dX4_init_4 : decode cX4_init 4 = .ok (.aload_n 0, 1) := by decide +kernel
theorem dX4_init_5 : decode cX4_init 5 = .ok (.bipush 7, 2) := by decide +kernel
theorem dX4_init_7 : decode cX4_init 7 = .ok (.newarray .int, 2) := by decide +kernel
theorem dX4_init_9 : decode cX4_init 9 = .ok (.putfield 11, 3) := by decide +kernel
theorem dX4_init_12 : decode cX4_init 12 = .ok (.aload_n 0, 1) := by decide +kernel
theorem dX4_init_13 : decode cX4_init 13 = .ok (.bipush 28, 2) := by decide +kernel
theorem dX4_init_15 : decode cX4_init 15 = .ok (.newarray .int, 2) := by decide +kernel
theorem dX4_init_17 : decode cX4_init 17 = .ok (.putfield 15, 3) := by decide +kernel
theorem dX4_init_20 : decode cX4_init 20 = .ok (.return_, 1) := by decide +kernel
theorem dX4_areOn_0 : decode cX4_areOn 0 = .ok (.aload_n 0, 1) := by decide +kernel
theorem dX4_areOn_1 : decode cX4_areOn 1 = .ok (.bipush 19, 2) := by decide +kernel
theorem dX4_areOn_3 : decode cX4_areOn 3 = .ok (.invokevirtual 18, 3) := by decide +kernel
theorem dX4_areOn_6 : decode cX4_areOn 6 = .ok (.istore_n 1, 1) := by decide +kernel
theorem dX4_areOn_7 : decode cX4_areOn 7 = .ok (.aload_n 0, 1) := by decide +kernel
theorem dX4_areOn_8 : decode cX4_areOn 8 = .ok (.iconst 0, 1) := by decide +kernel
theorem dX4_areOn_9 : decode cX4_areOn 9 = .ok (.invokevirtual 18, 3) := by decide +kernel
theorem dX4_areOn_12 : decode cX4_areOn 12 = .ok (.bipush 69, 2) := by decide +kernel
theorem dX4_areOn_14 : decode cX4_areOn 14 = .ok (.if_icmp .ne 13, 3) := by decide +kernel
theorem dX4_areOn_17 : decode cX4_areOn 17 = .ok (.iload_n 1, 1) := by decide +kernel
theorem dX4_areOn_18 : decode cX4_areOn 18 = .ok (.ifCond .lt 9, 3) := by decide +kernel
theorem dX4_areOn_21 : decode cX4_areOn 21 = .ok (.iload_n 1, 1) := by decide +kernel
theorem dX4_areOn_22 : decode cX4_areOn 22 = .ok (.bipush 7, 2) := by decide +kernel
theorem dX4_areOn_24 : decode cX4_areOn 24 = .ok (.if_icmp .lt 5, 3) := by decide +kernel
theorem dX4_areOn_27 : decode cX4_areOn 27 = .ok (.iconst 0, 1) := by decide +kernel
theorem dX4_areOn_28 : decode cX4_areOn 28 = .ok (.ireturn, 1) := by decide +kernel
theorem dX4_areOn_29 : decode cX4_areOn 29 = .ok (.aload_n 0, 1) := by decide +kernel
theorem dX4_areOn_30 : decode cX4_areOn 30 = .ok (.getfield 24, 3) := by decide +kernel
theorem dX4_areOn_33 : decode cX4_areOn 33 = .ok (.bipush 20, 2) := by decide +kernel
theorem dX4_areOn_35 : decode cX4_areOn 35 = .ok (.iload_n 1, 1) := by decide +kernel
theorem dX4_areOn_36 : decode cX4_areOn 36 = .ok (.bipush 18, 2) := by decide +kernel
theorem dX4_areOn_38 : decode cX4_areOn 38 = .ok (.imul, 1) := by decide +kernel
theorem dX4_areOn_39 : decode cX4_areOn 39 = .ok (.iadd, 1) := by decide +kernel
theorem dX4_areOn_40 : decode cX4_areOn 40 = .ok (.if_icmp .ne 17, 3) := by decide +kernel
theorem dX4_areOn_43 : decode cX4_areOn 43 = .ok (.aload_n 0, 1) := by decide +kernel
theorem dX4_areOn_44 : decode cX4_areOn 44 = .ok (.iload_n 1, 1) := by decide +kernel
theorem dX4_areOn_45 : decode cX4_areOn 45 = .ok (.iconst 1, 1) := by decide +kernel
theorem dX4_areOn_46 : decode cX4_areOn 46 = .ok (.iadd, 1) := by decide +kernel
theorem dX4_areOn_47 : decode cX4_areOn 47 = .ok (.invokestatic 28, 3) := by decide +kernel
theorem dX4_areOn_50 : decode cX4_areOn 50 = .ok (.ifCond .eq 7, 3) := by decide +kernel
theorem dX4_areOn_53 : decode cX4_areOn 53 = .ok (.iconst 1, 1) := by decide +kernel
theorem dX4_areOn_54 : decode cX4_areOn 54 = .ok (.goto 4, 3) := by decide +kernel
theorem dX4_areOn_57 : decode cX4_areOn 57 = .ok (.iconst 0, 1) := by decide +kernel
theorem dX4_areOn_58 : decode cX4_areOn 58 = .ok (.ireturn, 1) := by decide +kernel
theorem dX4_areDifferent_0 : decode cX4_areDifferent 0 = .ok (.iconst 0, 1) := by decide +kernel
theorem dX4_areDifferent_1 : decode cX4_areDifferent 1 = .ok (.istore_n 2, 1) := by decide +kernel
theorem dX4_areDifferent_2 : decode cX4_areDifferent 2 = .ok (.iload_n 2, 1) := by decide +kernel
theorem dX4_areDifferent_3 : decode cX4_areDifferent 3 = .ok (.iload_n 1, 1) := by decide +kernel
theorem dX4_areDifferent_4 : decode cX4_areDifferent 4 = .ok (.if_icmp .ge 43, 3) := by decide +kernel
theorem dX4_areDifferent_7 : decode cX4_areDifferent 7 = .ok (.iconst 0, 1) := by decide +kernel
theorem dX4_areDifferent_8 : decode cX4_areDifferent 8 = .ok (.istore_n 3, 1) := by decide +kernel
theorem dX4_areDifferent_9 : decode cX4_areDifferent 9 = .ok (.iload_n 3, 1) := by decide +kernel
theorem dX4_areDifferent_10 : decode cX4_areDifferent 10 = .ok (.iload_n 2, 1) := by decide +kernel
theorem dX4_areDifferent_11 : decode cX4_areDifferent 11 = .ok (.if_icmp .ge 30, 3) := by decide +kernel
theorem dX4_areDifferent_14 : decode cX4_areDifferent 14 = .ok (.aload_n 0, 1) := by decide +kernel
theorem dX4_areDifferent_15 : decode cX4_areDifferent 15 = .ok (.iload_n 2, 1) := by decide +kernel
theorem dX4_areDifferent_16 : decode cX4_areDifferent 16 = .ok (.invokestatic 32, 3) := by decide +kernel
theorem dX4_areDifferent_19 : decode cX4_areDifferent 19 = .ok (.invokevirtual 35, 3) := by decide +kernel
theorem dX4_areDifferent_22 : decode cX4_areDifferent 22 = .ok (.aload_n 0, 1) := by decide +kernel
theorem dX4_areDifferent_23 : decode cX4_areDifferent 23 = .ok (.iload_n 3, 1) := by decide +kernel
theorem dX4_areDifferent_24 : decode cX4_areDifferent 24 = .ok (.invokestatic 32, 3) := by decide +kernel
theorem dX4_areDifferent_27 : decode cX4_areDifferent 27 = .ok (.invokevirtual 35, 3) := by decide +kernel
theorem dX4_areDifferent_30 : decode cX4_areDifferent 30 = .ok (.if_icmp .ne 5, 3) := by decide +kernel
theorem dX4_areDifferent_33 : decode cX4_areDifferent 33 = .ok (.iconst 0, 1) := by decide +kernel
theorem dX4_areDifferent_34 : decode cX4_areDifferent 34 = .ok (.ireturn, 1) := by decide +kernel
theorem dX4_areDifferent_35 : decode cX4_areDifferent 35 = .ok (.iinc 3 1, 3) := by decide +kernel
theorem dX4_areDifferent_38 : decode cX4_areDifferent 38 = .ok (.goto (-29), 3) := by decide +kernel
theorem dX4_areDifferent_41 : decode cX4_areDifferent 41 = .ok (.iinc 2 1, 3) := by decide +kernel
theorem dX4_areDifferent_44 : decode cX4_areDifferent 44 = .ok (.goto (-42), 3) := by decide +kernel
theorem dX4_areDifferent_47 : decode cX4_areDifferent 47 = .ok (.iconst 1, 1) := by decide +kernel
theorem dX4_areDifferent_48 : decode cX4_areDifferent 48 = .ok (.ireturn, 1) := by decide +kernel
theorem dX4_issuerPlace_0 : decode cX4_issuerPlace 0 = .ok (.iload_n 0, 1) := by decide +kernel
theorem dX4_issuerPlace_1 : decode cX4_issuerPlace 1 = .ok (.ifCond .ne 7, 3) := by decide +kernel
theorem dX4_issuerPlace_4 : decode cX4_issuerPlace 4 = .ok (.iconst 1, 1) := by decide +kernel
theorem dX4_issuerPlace_5 : decode cX4_issuerPlace 5 = .ok (.goto 12, 3) := by decide +kernel
theorem dX4_issuerPlace_8 : decode cX4_issuerPlace 8 = .ok (.bipush 20, 2) := by decide +kernel
theorem dX4_issuerPlace_10 : decode cX4_issuerPlace 10 = .ok (.iload_n 0, 1) := by decide +kernel
theorem dX4_issuerPlace_11 : decode cX4_issuerPlace 11 = .ok (.iconst 1, 1) := by decide +kernel
theorem dX4_issuerPlace_12 : decode cX4_issuerPlace 12 = .ok (.isub, 1) := by decide +kernel
theorem dX4_issuerPlace_13 : decode cX4_issuerPlace 13 = .ok (.bipush 18, 2) := by decide +kernel
theorem dX4_issuerPlace_15 : decode cX4_issuerPlace 15 = .ok (.imul, 1) := by decide +kernel
theorem dX4_issuerPlace_16 : decode cX4_issuerPlace 16 = .ok (.iadd, 1) := by decide +kernel
theorem dX4_issuerPlace_17 : decode cX4_issuerPlace 17 = .ok (.ireturn, 1) := by decide +kernel
theorem dX4_takeFrom_0 : decode cX4_takeFrom 0 = .ok (.aload_n 0, 1) := by decide +kernel
theorem dX4_takeFrom_1 : decode cX4_takeFrom 1 = .ok (.iconst 0, 1) := by decide +kernel
theorem dX4_takeFrom_2 : decode cX4_takeFrom 2 = .ok (.aload_n 1, 1) := by decide +kernel
theorem dX4_takeFrom_3 : decode cX4_takeFrom 3 = .ok (.bipush 19, 2) := by decide +kernel
theorem dX4_takeFrom_5 : decode cX4_takeFrom 5 = .ok (.invokevirtual 18, 3) := by decide +kernel
theorem dX4_takeFrom_8 : decode cX4_takeFrom 8 = .ok (.iconst 1, 1) := by decide +kernel
theorem dX4_takeFrom_9 : decode cX4_takeFrom 9 = .ok (.iadd, 1) := by decide +kernel
theorem dX4_takeFrom_10 : decode cX4_takeFrom 10 = .ok (.bipush 7, 2) := by decide +kernel
theorem dX4_takeFrom_12 : decode cX4_takeFrom 12 = .ok (.invokestatic 38, 3) := by decide +kernel
theorem dX4_takeFrom_15 : decode cX4_takeFrom 15 = .ok (.invokestatic 44, 3) := by decide +kernel
theorem dX4_takeFrom_18 : decode cX4_takeFrom 18 = .ok (.putfield 47, 3) := by decide +kernel
theorem dX4_takeFrom_21 : decode cX4_takeFrom 21 = .ok (.iconst 0, 1) := by decide +kernel
theorem dX4_takeFrom_22 : decode cX4_takeFrom 22 = .ok (.istore_n 2, 1) := by decide +kernel
theorem dX4_takeFrom_23 : decode cX4_takeFrom 23 = .ok (.iload_n 2, 1) := by decide +kernel
theorem dX4_takeFrom_24 : decode cX4_takeFrom 24 = .ok (.aload_n 0, 1) := by decide +kernel
theorem dX4_takeFrom_25 : decode cX4_takeFrom 25 = .ok (.getfield 47, 3) := by decide +kernel
theorem dX4_takeFrom_28 : decode cX4_takeFrom 28 = .ok (.if_icmp .ge 63, 3) := by decide +kernel
theorem dX4_takeFrom_31 : decode cX4_takeFrom 31 = .ok (.iload_n 2, 1) := by decide +kernel
theorem dX4_takeFrom_32 : decode cX4_takeFrom 32 = .ok (.invokestatic 32, 3) := by decide +kernel
theorem dX4_takeFrom_35 : decode cX4_takeFrom 35 = .ok (.istore_n 3, 1) := by decide +kernel
theorem dX4_takeFrom_36 : decode cX4_takeFrom 36 = .ok (.aload_n 0, 1) := by decide +kernel
theorem dX4_takeFrom_37 : decode cX4_takeFrom 37 = .ok (.getfield 11, 3) := by decide +kernel
theorem dX4_takeFrom_40 : decode cX4_takeFrom 40 = .ok (.iload_n 2, 1) := by decide +kernel
theorem dX4_takeFrom_41 : decode cX4_takeFrom 41 = .ok (.aload_n 1, 1) := by decide +kernel
theorem dX4_takeFrom_42 : decode cX4_takeFrom 42 = .ok (.iload_n 3, 1) := by decide +kernel
theorem dX4_takeFrom_43 : decode cX4_takeFrom 43 = .ok (.invokevirtual 35, 3) := by decide +kernel
theorem dX4_takeFrom_46 : decode cX4_takeFrom 46 = .ok (.iastore, 1) := by decide +kernel
theorem dX4_takeFrom_47 : decode cX4_takeFrom 47 = .ok (.iconst 0, 1) := by decide +kernel
theorem dX4_takeFrom_48 : decode cX4_takeFrom 48 = .ok (.istore 4, 2) := by decide +kernel
theorem dX4_takeFrom_50 : decode cX4_takeFrom 50 = .ok (.iload 4, 2) := by decide +kernel
theorem dX4_takeFrom_52 : decode cX4_takeFrom 52 = .ok (.iconst 4, 1) := by decide +kernel
theorem dX4_takeFrom_53 : decode cX4_takeFrom 53 = .ok (.if_icmp .ge 32, 3) := by decide +kernel
theorem dX4_takeFrom_56 : decode cX4_takeFrom 56 = .ok (.aload_n 0, 1) := by decide +kernel
theorem dX4_takeFrom_57 : decode cX4_takeFrom 57 = .ok (.getfield 15, 3) := by decide +kernel
theorem dX4_takeFrom_60 : decode cX4_takeFrom 60 = .ok (.iload_n 2, 1) := by decide +kernel
theorem dX4_takeFrom_61 : decode cX4_takeFrom 61 = .ok (.iconst 4, 1) := by decide +kernel
theorem dX4_takeFrom_62 : decode cX4_takeFrom 62 = .ok (.imul, 1) := by decide +kernel
theorem dX4_takeFrom_63 : decode cX4_takeFrom 63 = .ok (.iload 4, 2) := by decide +kernel
theorem dX4_takeFrom_65 : decode cX4_takeFrom 65 = .ok (.iadd, 1) := by decide +kernel
theorem dX4_takeFrom_66 : decode cX4_takeFrom 66 = .ok (.aload_n 1, 1) := by decide +kernel
theorem dX4_takeFrom_67 : decode cX4_takeFrom 67 = .ok (.iload_n 3, 1) := by decide +kernel
theorem dX4_takeFrom_68 : decode cX4_takeFrom 68 = .ok (.iconst 2, 1) := by decide +kernel
theorem dX4_takeFrom_69 : decode cX4_takeFrom 69 = .ok (.iadd, 1) := by decide +kernel
theorem dX4_takeFrom_70 : decode cX4_takeFrom 70 = .ok (.iload 4, 2) := by decide +kernel
theorem dX4_takeFrom_72 : decode cX4_takeFrom 72 = .ok (.iconst 4, 1) := by decide +kernel
theorem dX4_takeFrom_73 : decode cX4_takeFrom 73 = .ok (.imul, 1) := by decide +kernel
theorem dX4_takeFrom_74 : decode cX4_takeFrom 74 = .ok (.iadd, 1) := by decide +kernel
theorem dX4_takeFrom_75 : decode cX4_takeFrom 75 = .ok (.invokevirtual 50, 3) := by decide +kernel
theorem dX4_takeFrom_78 : decode cX4_takeFrom 78 = .ok (.iastore, 1) := by decide +kernel
theorem dX4_takeFrom_79 : decode cX4_takeFrom 79 = .ok (.iinc 4 1, 3) := by decide +kernel
theorem dX4_takeFrom_82 : decode cX4_takeFrom 82 = .ok (.goto (-32), 3) := by decide +kernel
theorem dX4_takeFrom_85 : decode cX4_takeFrom 85 = .ok (.iinc 2 1, 3) := by decide +kernel
theorem dX4_takeFrom_88 : decode cX4_takeFrom 88 = .ok (.goto (-65), 3) := by decide +kernel
theorem dX4_takeFrom_91 : decode cX4_takeFrom 91 = .ok (.return_, 1) := by decide +kernel
theorem dX4_isEnrolled_0 : decode cX4_isEnrolled 0 = .ok (.aload_n 0, 1) := by decide +kernel
theorem dX4_isEnrolled_1 : decode cX4_isEnrolled 1 = .ok (.getfield 47, 3) := by decide +kernel
theorem dX4_isEnrolled_4 : decode cX4_isEnrolled 4 = .ok (.ifCond .le 7, 3) := by decide +kernel
theorem dX4_isEnrolled_7 : decode cX4_isEnrolled 7 = .ok (.iconst 1, 1) := by decide +kernel
theorem dX4_isEnrolled_8 : decode cX4_isEnrolled 8 = .ok (.goto 4, 3) := by decide +kernel
theorem dX4_isEnrolled_11 : decode cX4_isEnrolled 11 = .ok (.iconst 0, 1) := by decide +kernel
theorem dX4_isEnrolled_12 : decode cX4_isEnrolled 12 = .ok (.ireturn, 1) := by decide +kernel
theorem dX4_ownIssuer_0 : decode cX4_ownIssuer 0 = .ok (.aload_n 0, 1) := by decide +kernel
theorem dX4_ownIssuer_1 : decode cX4_ownIssuer 1 = .ok (.getfield 47, 3) := by decide +kernel
theorem dX4_ownIssuer_4 : decode cX4_ownIssuer 4 = .ok (.ifCond .le 12, 3) := by decide +kernel
theorem dX4_ownIssuer_7 : decode cX4_ownIssuer 7 = .ok (.aload_n 0, 1) := by decide +kernel
theorem dX4_ownIssuer_8 : decode cX4_ownIssuer 8 = .ok (.getfield 11, 3) := by decide +kernel
theorem dX4_ownIssuer_11 : decode cX4_ownIssuer 11 = .ok (.iconst 0, 1) := by decide +kernel
theorem dX4_ownIssuer_12 : decode cX4_ownIssuer 12 = .ok (.iaload, 1) := by decide +kernel
theorem dX4_ownIssuer_13 : decode cX4_ownIssuer 13 = .ok (.goto 4, 3) := by decide +kernel
theorem dX4_ownIssuer_16 : decode cX4_ownIssuer 16 = .ok (.iconst (-1), 1) := by decide +kernel
theorem dX4_ownIssuer_17 : decode cX4_ownIssuer 17 = .ok (.ireturn, 1) := by decide +kernel
theorem dX4_find_0 : decode cX4_find 0 = .ok (.iconst 0, 1) := by decide +kernel
theorem dX4_find_1 : decode cX4_find 1 = .ok (.istore_n 2, 1) := by decide +kernel
theorem dX4_find_2 : decode cX4_find 2 = .ok (.iload_n 2, 1) := by decide +kernel
theorem dX4_find_3 : decode cX4_find 3 = .ok (.aload_n 0, 1) := by decide +kernel
theorem dX4_find_4 : decode cX4_find 4 = .ok (.getfield 47, 3) := by decide +kernel
theorem dX4_find_7 : decode cX4_find 7 = .ok (.if_icmp .ge 27, 3) := by decide +kernel
theorem dX4_find_10 : decode cX4_find 10 = .ok (.iload_n 2, 1) := by decide +kernel
theorem dX4_find_11 : decode cX4_find 11 = .ok (.bipush 7, 2) := by decide +kernel
theorem dX4_find_13 : decode cX4_find 13 = .ok (.if_icmp .ge 21, 3) := by decide +kernel
theorem dX4_find_16 : decode cX4_find 16 = .ok (.aload_n 0, 1) := by decide +kernel
theorem dX4_find_17 : decode cX4_find 17 = .ok (.getfield 11, 3) := by decide +kernel
theorem dX4_find_20 : decode cX4_find 20 = .ok (.iload_n 2, 1) := by decide +kernel
theorem dX4_find_21 : decode cX4_find 21 = .ok (.iaload, 1) := by decide +kernel
theorem dX4_find_22 : decode cX4_find 22 = .ok (.iload_n 1, 1) := by decide +kernel
theorem dX4_find_23 : decode cX4_find 23 = .ok (.if_icmp .ne 5, 3) := by decide +kernel
theorem dX4_find_26 : decode cX4_find 26 = .ok (.iload_n 2, 1) := by decide +kernel
theorem dX4_find_27 : decode cX4_find 27 = .ok (.ireturn, 1) := by decide +kernel
theorem dX4_find_28 : decode cX4_find 28 = .ok (.iinc 2 1, 3) := by decide +kernel
theorem dX4_find_31 : decode cX4_find 31 = .ok (.goto (-29), 3) := by decide +kernel
theorem dX4_find_34 : decode cX4_find 34 = .ok (.iconst (-1), 1) := by decide +kernel
theorem dX4_find_35 : decode cX4_find 35 = .ok (.ireturn, 1) := by decide +kernel
theorem dX4_choose_0 : decode cX4_choose 0 = .ok (.iload_n 1, 1) := by decide +kernel
theorem dX4_choose_1 : decode cX4_choose 1 = .ok (.ifCond .lt 47, 3) := by decide +kernel
theorem dX4_choose_4 : decode cX4_choose 4 = .ok (.iload_n 1, 1) := by decide +kernel
theorem dX4_choose_5 : decode cX4_choose 5 = .ok (.bipush 7, 2) := by decide +kernel
theorem dX4_choose_7 : decode cX4_choose 7 = .ok (.if_icmp .ge 41, 3) := by decide +kernel
theorem dX4_choose_10 : decode cX4_choose 10 = .ok (.iload_n 1, 1) := by decide +kernel
theorem dX4_choose_11 : decode cX4_choose 11 = .ok (.iconst 4, 1) := by decide +kernel
theorem dX4_choose_12 : decode cX4_choose 12 = .ok (.imul, 1) := by decide +kernel
theorem dX4_choose_13 : decode cX4_choose 13 = .ok (.istore_n 3, 1) := by decide +kernel
theorem dX4_choose_14 : decode cX4_choose 14 = .ok (.aload_n 2, 1) := by decide +kernel
theorem dX4_choose_15 : decode cX4_choose 15 = .ok (.aload_n 0, 1) := by decide +kernel
theorem dX4_choose_16 : decode cX4_choose 16 = .ok (.getfield 15, 3) := by decide +kernel
theorem dX4_choose_19 : decode cX4_choose 19 = .ok (.iload_n 3, 1) := by decide +kernel
theorem dX4_choose_20 : decode cX4_choose 20 = .ok (.iaload, 1) := by decide +kernel
theorem dX4_choose_21 : decode cX4_choose 21 = .ok (.aload_n 0, 1) := by decide +kernel
theorem dX4_choose_22 : decode cX4_choose 22 = .ok (.getfield 15, 3) := by decide +kernel
theorem dX4_choose_25 : decode cX4_choose 25 = .ok (.iload_n 3, 1) := by decide +kernel
theorem dX4_choose_26 : decode cX4_choose 26 = .ok (.iconst 1, 1) := by decide +kernel
theorem dX4_choose_27 : decode cX4_choose 27 = .ok (.iadd, 1) := by decide +kernel
theorem dX4_choose_28 : decode cX4_choose 28 = .ok (.iaload, 1) := by decide +kernel
theorem dX4_choose_29 : decode cX4_choose 29 = .ok (.aload_n 0, 1) := by decide +kernel
theorem dX4_choose_30 : decode cX4_choose 30 = .ok (.getfield 15, 3) := by decide +kernel
theorem dX4_choose_33 : decode cX4_choose 33 = .ok (.iload_n 3, 1) := by decide +kernel
theorem dX4_choose_34 : decode cX4_choose 34 = .ok (.iconst 2, 1) := by decide +kernel
theorem dX4_choose_35 : decode cX4_choose 35 = .ok (.iadd, 1) := by decide +kernel
theorem dX4_choose_36 : decode cX4_choose 36 = .ok (.iaload, 1) := by decide +kernel
theorem dX4_choose_37 : decode cX4_choose 37 = .ok (.aload_n 0, 1) := by decide +kernel
theorem dX4_choose_38 : decode cX4_choose 38 = .ok (.getfield 15, 3) := by decide +kernel
theorem dX4_choose_41 : decode cX4_choose 41 = .ok (.iload_n 3, 1) := by decide +kernel
theorem dX4_choose_42 : decode cX4_choose 42 = .ok (.iconst 3, 1) := by decide +kernel
theorem dX4_choose_43 : decode cX4_choose 43 = .ok (.iadd, 1) := by decide +kernel
theorem dX4_choose_44 : decode cX4_choose 44 = .ok (.iaload, 1) := by decide +kernel
theorem dX4_choose_45 : decode cX4_choose 45 = .ok (.invokevirtual 53, 3) := by decide +kernel
theorem dX4_choose_48 : decode cX4_choose 48 = .ok (.return_, 1) := by decide +kernel
theorem dX5_init_0 : decode cX5_init 0 = .ok (.aload_n 0, 1) := by decide +kernel
theorem dX5_init_1 : decode cX5_init 1 = .ok (.invokespecial 1, 3) := by decide +kernel
theorem dX5_init_4 : decode cX5_init 4 = .ok (.return_, 1) := by decide +kernel
theorem dX6_init_0 : decode cX6_init 0 = .ok (.aload_n 0, 1) := by decide +kernel
theorem dX6_init_1 : decode cX6_init 1 = .ok (.invokespecial 3, 3) := by decide +kernel
theorem dX6_init_4 : decode cX6_init 4 = .ok (.aload_n 0, 1) := by decide +kernel
theorem dX6_init_5 : decode cX6_init 5 = .ok (.new 9, 3) := by decide +kernel
theorem dX6_init_8 : decode cX6_init 8 = .ok (.dup, 1) := by decide +kernel
theorem dX6_init_9 : decode cX6_init 9 = .ok (.invokespecial 11, 3) := by decide +kernel
theorem dX6_init_12 : decode cX6_init 12 = .ok (.putfield 12, 3) := by decide +kernel
theorem dX6_init_15 : decode cX6_init 15 = .ok (.aload_n 0, 1) := by decide +kernel
theorem dX6_init_16 : decode cX6_init 16 = .ok (.iconst 0, 1) := by decide +kernel
theorem dX6_init_17 : decode cX6_init 17 = .ok (.putfield 18, 3) := by decide +kernel
theorem dX6_init_20 : decode cX6_init 20 = .ok (.aload_n 0, 1) := by decide +kernel
theorem dX6_init_21 : decode cX6_init 21 = .ok (.iconst 0, 1) := by decide +kernel
theorem dX6_init_22 : decode cX6_init 22 = .ok (.putfield 22, 3) := by decide +kernel
theorem dX6_init_25 : decode cX6_init 25 = .ok (.aload_n 0, 1) := by decide +kernel
theorem dX6_init_26 : decode cX6_init 26 = .ok (.iconst (-1), 1) := by decide +kernel
theorem dX6_init_27 : decode cX6_init 27 = .ok (.putfield 25, 3) := by decide +kernel
theorem dX6_init_30 : decode cX6_init 30 = .ok (.aload_n 0, 1) := by decide +kernel
theorem dX6_init_31 : decode cX6_init 31 = .ok (.iconst (-1), 1) := by decide +kernel
theorem dX6_init_32 : decode cX6_init 32 = .ok (.putfield 28, 3) := by decide +kernel
theorem dX6_init_35 : decode cX6_init 35 = .ok (.return_, 1) := by decide +kernel
theorem dX7_init_0 : decode cX7_init 0 = .ok (.aload_n 0, 1) := by decide +kernel
theorem dX7_init_1 : decode cX7_init 1 = .ok (.invokespecial 3, 3) := by decide +kernel
theorem dX7_init_4 : decode cX7_init 4 = .ok (.aload_n 0, 1) := by decide +kernel
theorem dX7_init_5 : decode cX7_init 5 = .ok (.iconst 4, 1) := by decide +kernel
theorem dX7_init_6 : decode cX7_init 6 = .ok (.newarray .int, 2) := by decide +kernel
theorem dX7_init_8 : decode cX7_init 8 = .ok (.putfield 9, 3) := by decide +kernel
theorem dX7_init_11 : decode cX7_init 11 = .ok (.aload_n 0, 1) := by decide +kernel
theorem dX7_init_12 : decode cX7_init 12 = .ok (.sipush 512, 3) := by decide +kernel
theorem dX7_init_15 : decode cX7_init 15 = .ok (.newarray .byte, 2) := by decide +kernel
theorem dX7_init_17 : decode cX7_init 17 = .ok (.putfield 15, 3) := by decide +kernel
theorem dX7_init_20 : decode cX7_init 20 = .ok (.aload_n 0, 1) := by decide +kernel
theorem dX7_init_21 : decode cX7_init 21 = .ok (.bipush 64, 2) := by decide +kernel
theorem dX7_init_23 : decode cX7_init 23 = .ok (.newarray .int, 2) := by decide +kernel
theorem dX7_init_25 : decode cX7_init 25 = .ok (.putfield 19, 3) := by decide +kernel
theorem dX7_init_28 : decode cX7_init 28 = .ok (.aload_n 0, 1) := by decide +kernel
theorem dX7_init_29 : decode cX7_init 29 = .ok (.bipush 8, 2) := by decide +kernel
theorem dX7_init_31 : decode cX7_init 31 = .ok (.newarray .int, 2) := by decide +kernel
theorem dX7_init_33 : decode cX7_init 33 = .ok (.putfield 22, 3) := by decide +kernel
theorem dX7_init_36 : decode cX7_init 36 = .ok (.return_, 1) := by decide +kernel
theorem dX7_useKey_0 : decode cX7_useKey 0 = .ok (.aload_n 0, 1) := by decide +kernel
theorem dX7_useKey_1 : decode cX7_useKey 1 = .ok (.getfield 9, 3) := by decide +kernel
theorem dX7_useKey_4 : decode cX7_useKey 4 = .ok (.iconst 0, 1) := by decide +kernel
theorem dX7_useKey_5 : decode cX7_useKey 5 = .ok (.iload_n 1, 1) := by decide +kernel
theorem dX7_useKey_6 : decode cX7_useKey 6 = .ok (.iastore, 1) := by decide +kernel
theorem dX7_useKey_7 : decode cX7_useKey 7 = .ok (.aload_n 0, 1) := by decide +kernel
theorem dX7_useKey_8 : decode cX7_useKey 8 = .ok (.getfield 9, 3) := by decide +kernel
theorem dX7_useKey_11 : decode cX7_useKey 11 = .ok (.iconst 1, 1) := by decide +kernel
theorem dX7_useKey_12 : decode cX7_useKey 12 = .ok (.iload_n 2, 1) := by decide +kernel
theorem dX7_useKey_13 : decode cX7_useKey 13 = .ok (.iastore, 1) := by decide +kernel
theorem dX7_useKey_14 : decode cX7_useKey 14 = .ok (.aload_n 0, 1) := by decide +kernel
theorem dX7_useKey_15 : decode cX7_useKey 15 = .ok (.getfield 9, 3) := by decide +kernel
theorem dX7_useKey_18 : decode cX7_useKey 18 = .ok (.iconst 2, 1) := by decide +kernel
theorem dX7_useKey_19 : decode cX7_useKey 19 = .ok (.iload_n 3, 1) := by decide +kernel
theorem dX7_useKey_20 : decode cX7_useKey 20 = .ok (.iastore, 1) := by decide +kernel
theorem dX7_useKey_21 : decode cX7_useKey 21 = .ok (.aload_n 0, 1) := by decide +kernel
theorem dX7_useKey_22 : decode cX7_useKey 22 = .ok (.getfield 9, 3) := by decide +kernel
theorem dX7_useKey_25 : decode cX7_useKey 25 = .ok (.iconst 3, 1) := by decide +kernel
theorem dX7_useKey_26 : decode cX7_useKey 26 = .ok (.iload 4, 2) := by decide +kernel
theorem dX7_useKey_28 : decode cX7_useKey 28 = .ok (.iastore, 1) := by decide +kernel
theorem dX7_useKey_29 : decode cX7_useKey 29 = .ok (.return_, 1) := by decide +kernel
theorem dX7_work_0 : decode cX7_work 0 = .ok (.iconst 0, 1) := by decide +kernel
theorem dX7_work_1 : decode cX7_work 1 = .ok (.iload_n 2, 1) := by decide +kernel
theorem dX7_work_2 : decode cX7_work 2 = .ok (.aload_n 1, 1) := by decide +kernel
theorem dX7_work_3 : decode cX7_work 3 = .ok (.getfield 25, 3) := by decide +kernel
theorem dX7_work_6 : decode cX7_work 6 = .ok (.arraylength, 1) := by decide +kernel
theorem dX7_work_7 : decode cX7_work 7 = .ok (.sipush 400, 3) := by decide +kernel
theorem dX7_work_10 : decode cX7_work 10 = .ok (.invokestatic 30, 3) := by decide +kernel
theorem dX7_work_13 : decode cX7_work 13 = .ok (.invokestatic 30, 3) := by decide +kernel
theorem dX7_work_16 : decode cX7_work 16 = .ok (.invokestatic 36, 3) := by decide +kernel
theorem dX7_work_19 : decode cX7_work 19 = .ok (.istore_n 3, 1) := by decide +kernel
theorem dX7_work_20 : decode cX7_work 20 = .ok (.aload_n 0, 1) := by decide +kernel
theorem dX7_work_21 : decode cX7_work 21 = .ok (.bipush 54, 2) := by decide +kernel
theorem dX7_work_23 : decode cX7_work 23 = .ok (.invokevirtual 39, 3) := by decide +kernel
theorem dX7_work_26 : decode cX7_work 26 = .ok (.aload_n 1, 1) := by decide +kernel
theorem dX7_work_27 : decode cX7_work 27 = .ok (.getfield 25, 3) := by decide +kernel
theorem dX7_work_30 : decode cX7_work 30 = .ok (.iconst 0, 1) := by decide +kernel
theorem dX7_work_31 : decode cX7_work 31 = .ok (.aload_n 0, 1) := by decide +kernel
theorem dX7_work_32 : decode cX7_work 32 = .ok (.getfield 15, 3) := by decide +kernel
theorem dX7_work_35 : decode cX7_work 35 = .ok (.bipush 64, 2) := by decide +kernel
theorem dX7_work_37 : decode cX7_work 37 = .ok (.iload_n 3, 1) := by decide +kernel
theorem dX7_work_38 : decode cX7_work 38 = .ok (.invokestatic 43, 3) := by decide +kernel
theorem dX7_work_41 : decode cX7_work 41 = .ok (.aload_n 0, 1) := by decide +kernel
theorem dX7_work_42 : decode cX7_work 42 = .ok (.bipush 64, 2) := by decide +kernel
theorem dX7_work_44 : decode cX7_work 44 = .ok (.iload_n 3, 1) := by decide +kernel
theorem dX7_work_45 : decode cX7_work 45 = .ok (.iadd, 1) := by decide +kernel
theorem dX7_work_46 : decode cX7_work 46 = .ok (.invokevirtual 49, 3) := by decide +kernel
theorem dX7_work_49 : decode cX7_work 49 = .ok (.aload_n 0, 1) := by decide +kernel
theorem dX7_work_50 : decode cX7_work 50 = .ok (.bipush 92, 2) := by decide +kernel
theorem dX7_work_52 : decode cX7_work 52 = .ok (.invokevirtual 39, 3) := by decide +kernel
theorem dX7_work_55 : decode cX7_work 55 = .ok (.iconst 0, 1) := by decide +kernel
theorem dX7_work_56 : decode cX7_work 56 = .ok (.istore 4, 2) := by decide +kernel
theorem dX7_work_58 : decode cX7_work 58 = .ok (.iload 4, 2) := by decide +kernel
theorem dX7_work_60 : decode cX7_work 60 = .ok (.bipush 32, 2) := by decide +kernel
theorem dX7_work_62 : decode cX7_work 62 = .ok (.if_icmp .ge 36, 3) := by decide +kernel
theorem dX7_work_65 : decode cX7_work 65 = .ok (.aload_n 0, 1) := by decide +kernel
theorem dX7_work_66 : decode cX7_work 66 = .ok (.getfield 15, 3) := by decide +kernel
theorem dX7_work_69 : decode cX7_work 69 = .ok (.bipush 64, 2) := by decide +kernel
theorem dX7_work_71 : decode cX7_work 71 = .ok (.iload 4, 2) := by decide +kernel
theorem dX7_work_73 : decode cX7_work 73 = .ok (.iadd, 1) := by decide +kernel
theorem dX7_work_74 : decode cX7_work 74 = .ok (.aload_n 0, 1) := by decide +kernel
theorem dX7_work_75 : decode cX7_work 75 = .ok (.getfield 22, 3) := by decide +kernel
theorem dX7_work_78 : decode cX7_work 78 = .ok (.iload 4, 2) := by decide +kernel
theorem dX7_work_80 : decode cX7_work 80 = .ok (.iconst 4, 1) := by decide +kernel
theorem dX7_work_81 : decode cX7_work 81 = .ok (.idiv, 1) := by decide +kernel
theorem dX7_work_82 : decode cX7_work 82 = .ok (.iaload, 1) := by decide +kernel
theorem dX7_work_83 : decode cX7_work 83 = .ok (.iload 4, 2) := by decide +kernel
theorem dX7_work_85 : decode cX7_work 85 = .ok (.iconst 4, 1) := by decide +kernel
theorem dX7_work_86 : decode cX7_work 86 = .ok (.irem, 1) := by decide +kernel
theorem dX7_work_87 : decode cX7_work 87 = .ok (.invokestatic 52, 3) := by decide +kernel
theorem dX7_work_90 : decode cX7_work 90 = .ok (.i2b, 1) := by decide +kernel
theorem dX7_work_91 : decode cX7_work 91 = .ok (.bastore, 1) := by decide +kernel
theorem dX7_work_92 : decode cX7_work 92 = .ok (.iinc 4 1, 3) := by decide +kernel
theorem dX7_work_95 : decode cX7_work 95 = .ok (.goto (-37), 3) := by decide +kernel
theorem dX7_work_98 : decode cX7_work 98 = .ok (.aload_n 0, 1) := by decide +kernel
theorem dX7_work_99 : decode cX7_work 99 = .ok (.bipush 96, 2) := by decide +kernel
theorem dX7_work_101 : decode cX7_work 101 = .ok (.invokevirtual 49, 3) := by decide +kernel
theorem dX7_work_104 : decode cX7_work 104 = .ok (.return_, 1) := by decide +kernel
theorem dX7_sealByte_0 : decode cX7_sealByte 0 = .ok (.iload_n 1, 1) := by decide +kernel
theorem dX7_sealByte_1 : decode cX7_sealByte 1 = .ok (.ifCond .lt 26, 3) := by decide +kernel
theorem dX7_sealByte_4 : decode cX7_sealByte 4 = .ok (.iload_n 1, 1) := by decide +kernel
theorem dX7_sealByte_5 : decode cX7_sealByte 5 = .ok (.bipush 16, 2) := by decide +kernel
theorem dX7_sealByte_7 : decode cX7_sealByte 7 = .ok (.if_icmp .ge 20, 3) := by decide +kernel
theorem dX7_sealByte_10 : decode cX7_sealByte 10 = .ok (.aload_n 0, 1) := by decide +kernel
theorem dX7_sealByte_11 : decode cX7_sealByte 11 = .ok (.getfield 22, 3) := by decide +kernel
theorem dX7_sealByte_14 : decode cX7_sealByte 14 = .ok (.iload_n 1, 1) := by decide +kernel
theorem dX7_sealByte_15 : decode cX7_sealByte 15 = .ok (.iconst 4, 1) := by decide +kernel
theorem dX7_sealByte_16 : decode cX7_sealByte 16 = .ok (.idiv, 1) := by decide +kernel
theorem dX7_sealByte_17 : decode cX7_sealByte 17 = .ok (.iaload, 1) := by decide +kernel
theorem dX7_sealByte_18 : decode cX7_sealByte 18 = .ok (.iload_n 1, 1) := by decide +kernel
theorem dX7_sealByte_19 : decode cX7_sealByte 19 = .ok (.iconst 4, 1) := by decide +kernel
theorem dX7_sealByte_20 : decode cX7_sealByte 20 = .ok (.irem, 1) := by decide +kernel
theorem dX7_sealByte_21 : decode cX7_sealByte 21 = .ok (.invokestatic 52, 3) := by decide +kernel
theorem dX7_sealByte_24 : decode cX7_sealByte 24 = .ok (.goto 4, 3) := by decide +kernel
theorem dX7_sealByte_27 : decode cX7_sealByte 27 = .ok (.iconst (-1), 1) := by decide +kernel
theorem dX7_sealByte_28 : decode cX7_sealByte 28 = .ok (.ireturn, 1) := by decide +kernel
theorem dX7_addSealTo_0 : decode cX7_addSealTo 0 = .ok (.iconst 0, 1) := by decide +kernel
theorem dX7_addSealTo_1 : decode cX7_addSealTo 1 = .ok (.istore_n 2, 1) := by decide +kernel
theorem dX7_addSealTo_2 : decode cX7_addSealTo 2 = .ok (.iload_n 2, 1) := by decide +kernel
theorem dX7_addSealTo_3 : decode cX7_addSealTo 3 = .ok (.bipush 16, 2) := by decide +kernel
theorem dX7_addSealTo_5 : decode cX7_addSealTo 5 = .ok (.if_icmp .ge 18, 3) := by decide +kernel
theorem dX7_addSealTo_8 : decode cX7_addSealTo 8 = .ok (.aload_n 1, 1) := by decide +kernel
theorem dX7_addSealTo_9 : decode cX7_addSealTo 9 = .ok (.aload_n 0, 1) := by decide +kernel
theorem dX7_addSealTo_10 : decode cX7_addSealTo 10 = .ok (.iload_n 2, 1) := by decide +kernel
theorem dX7_addSealTo_11 : decode cX7_addSealTo 11 = .ok (.invokevirtual 55, 3) := by decide +kernel
theorem dX7_addSealTo_14 : decode cX7_addSealTo 14 = .ok (.invokevirtual 59, 3) := by decide +kernel
theorem dX7_addSealTo_17 : decode cX7_addSealTo 17 = .ok (.iinc 2 1, 3) := by decide +kernel
theorem dX7_addSealTo_20 : decode cX7_addSealTo 20 = .ok (.goto (-18), 3) := by decide +kernel
theorem dX7_addSealTo_23 : decode cX7_addSealTo 23 = .ok (.return_, 1) := by decide +kernel
theorem dX7_byteOfWord_0 : decode cX7_byteOfWord 0 = .ok (.iload_n 0, 1) := by decide +kernel
theorem dX7_byteOfWord_1 : decode cX7_byteOfWord 1 = .ok (.bipush 24, 2) := by decide +kernel
theorem dX7_byteOfWord_3 : decode cX7_byteOfWord 3 = .ok (.bipush 8, 2) := by decide +kernel
theorem dX7_byteOfWord_5 : decode cX7_byteOfWord 5 = .ok (.iload_n 1, 1) := by decide +kernel
theorem dX7_byteOfWord_6 : decode cX7_byteOfWord 6 = .ok (.imul, 1) := by decide +kernel
theorem dX7_byteOfWord_7 : decode cX7_byteOfWord 7 = .ok (.isub, 1) := by decide +kernel
theorem dX7_byteOfWord_8 : decode cX7_byteOfWord 8 = .ok (.iushr, 1) := by decide +kernel
theorem dX7_byteOfWord_9 : decode cX7_byteOfWord 9 = .ok (.sipush 255, 3) := by decide +kernel
theorem dX7_byteOfWord_12 : decode cX7_byteOfWord 12 = .ok (.iand, 1) := by decide +kernel
theorem dX7_byteOfWord_13 : decode cX7_byteOfWord 13 = .ok (.ireturn, 1) := by decide +kernel
theorem dX7_beginWithKey_0 : decode cX7_beginWithKey 0 = .ok (.iconst 0, 1) := by decide +kernel
theorem dX7_beginWithKey_1 : decode cX7_beginWithKey 1 = .ok (.istore_n 2, 1) := by decide +kernel
theorem dX7_beginWithKey_2 : decode cX7_beginWithKey 2 = .ok (.iload_n 2, 1) := by decide +kernel
theorem dX7_beginWithKey_3 : decode cX7_beginWithKey 3 = .ok (.bipush 64, 2) := by decide +kernel
theorem dX7_beginWithKey_5 : decode cX7_beginWithKey 5 = .ok (.if_icmp .ge 44, 3) := by decide +kernel
theorem dX7_beginWithKey_8 : decode cX7_beginWithKey 8 = .ok (.iload_n 2, 1) := by decide +kernel
theorem dX7_beginWithKey_9 : decode cX7_beginWithKey 9 = .ok (.bipush 16, 2) := by decide +kernel
theorem dX7_beginWithKey_11 : decode cX7_beginWithKey 11 = .ok (.if_icmp .ge 20, 3) := by decide +kernel
theorem dX7_beginWithKey_14 : decode cX7_beginWithKey 14 = .ok (.aload_n 0, 1) := by decide +kernel
theorem dX7_beginWithKey_15 : decode cX7_beginWithKey 15 = .ok (.getfield 9, 3) := by decide +kernel
theorem dX7_beginWithKey_18 : decode cX7_beginWithKey 18 = .ok (.iload_n 2, 1) := by decide +kernel
theorem dX7_beginWithKey_19 : decode cX7_beginWithKey 19 = .ok (.iconst 4, 1) := by decide +kernel
theorem dX7_beginWithKey_20 : decode cX7_beginWithKey 20 = .ok (.idiv, 1) := by decide +kernel
theorem dX7_beginWithKey_21 : decode cX7_beginWithKey 21 = .ok (.iaload, 1) := by decide +kernel
theorem dX7_beginWithKey_22 : decode cX7_beginWithKey 22 = .ok (.iload_n 2, 1) := by decide +kernel
theorem dX7_beginWithKey_23 : decode cX7_beginWithKey 23 = .ok (.iconst 4, 1) := by decide +kernel
theorem dX7_beginWithKey_24 : decode cX7_beginWithKey 24 = .ok (.irem, 1) := by decide +kernel
theorem dX7_beginWithKey_25 : decode cX7_beginWithKey 25 = .ok (.invokestatic 52, 3) := by decide +kernel
theorem dX7_beginWithKey_28 : decode cX7_beginWithKey 28 = .ok (.goto 4, 3) := by decide +kernel
theorem dX7_beginWithKey_31 : decode cX7_beginWithKey 31 = .ok (.iconst 0, 1) := by decide +kernel
theorem dX7_beginWithKey_32 : decode cX7_beginWithKey 32 = .ok (.istore_n 3, 1) := by decide +kernel
theorem dX7_beginWithKey_33 : decode cX7_beginWithKey 33 = .ok (.aload_n 0, 1) := by decide +kernel
theorem dX7_beginWithKey_34 : decode cX7_beginWithKey 34 = .ok (.getfield 15, 3) := by decide +kernel
theorem dX7_beginWithKey_37 : decode cX7_beginWithKey 37 = .ok (.iload_n 2, 1) := by decide +kernel
theorem dX7_beginWithKey_38 : decode cX7_beginWithKey 38 = .ok (.iload_n 3, 1) := by decide +kernel
theorem dX7_beginWithKey_39 : decode cX7_beginWithKey 39 = .ok (.iload_n 1, 1) := by decide +kernel
theorem dX7_beginWithKey_40 : decode cX7_beginWithKey 40 = .ok (.ixor, 1) := by decide +kernel
theorem dX7_beginWithKey_41 : decode cX7_beginWithKey 41 = .ok (.i2b, 1) := by decide +kernel
theorem dX7_beginWithKey_42 : decode cX7_beginWithKey 42 = .ok (.bastore, 1) := by decide +kernel
theorem dX7_beginWithKey_43 : decode cX7_beginWithKey 43 = .ok (.iinc 2 1, 3) := by decide +kernel
theorem dX7_beginWithKey_46 : decode cX7_beginWithKey 46 = .ok (.goto (-44), 3) := by decide +kernel
theorem dX7_beginWithKey_49 : decode cX7_beginWithKey 49 = .ok (.return_, 1) := by decide +kernel
theorem dX7_hashText_0 : decode cX7_hashText 0 = .ok (.iload_n 1, 1) := by decide +kernel
theorem dX7_hashText_1 : decode cX7_hashText 1 = .ok (.bipush 9, 2) := by decide +kernel
theorem dX7_hashText_3 : decode cX7_hashText 3 = .ok (.iadd, 1) := by decide +kernel
theorem dX7_hashText_4 : decode cX7_hashText 4 = .ok (.bipush 64, 2) := by decide +kernel
theorem dX7_hashText_6 : decode cX7_hashText 6 = .ok (.iadd, 1) := by decide +kernel
theorem dX7_hashText_7 : decode cX7_hashText 7 = .ok (.iconst 1, 1) := by decide +kernel
theorem dX7_hashText_8 : decode cX7_hashText 8 = .ok (.isub, 1) := by decide +kernel
theorem dX7_hashText_9 : decode cX7_hashText 9 = .ok (.bipush 64, 2) := by decide +kernel
theorem dX7_hashText_11 : decode cX7_hashText 11 = .ok (.idiv, 1) := by decide +kernel
theorem dX7_hashText_12 : decode cX7_hashText 12 = .ok (.bipush 64, 2) := by decide +kernel
theorem dX7_hashText_14 : decode cX7_hashText 14 = .ok (.imul, 1) := by decide +kernel
theorem dX7_hashText_15 : decode cX7_hashText 15 = .ok (.istore_n 2, 1) := by decide +kernel
theorem dX7_hashText_16 : decode cX7_hashText 16 = .ok (.iload_n 1, 1) := by decide +kernel
theorem dX7_hashText_17 : decode cX7_hashText 17 = .ok (.ifCond .lt 12, 3) := by decide +kernel
theorem dX7_hashText_20 : decode cX7_hashText 20 = .ok (.iload_n 2, 1) := by decide +kernel
theorem dX7_hashText_21 : decode cX7_hashText 21 = .ok (.aload_n 0, 1) := by decide +kernel
theorem dX7_hashText_22 : decode cX7_hashText 22 = .ok (.getfield 15, 3) := by decide +kernel
theorem dX7_hashText_25 : decode cX7_hashText 25 = .ok (.arraylength, 1) := by decide +kernel
theorem dX7_hashText_26 : decode cX7_hashText 26 = .ok (.if_icmp .le 4, 3) := by decide +kernel
theorem dX7_hashText_29 : decode cX7_hashText 29 = .ok (.return_, 1) := by decide +kernel
theorem dX7_hashText_30 : decode cX7_hashText 30 = .ok (.aload_n 0, 1) := by decide +kernel
theorem dX7_hashText_31 : decode cX7_hashText 31 = .ok (.getfield 15, 3) := by decide +kernel
theorem dX7_hashText_34 : decode cX7_hashText 34 = .ok (.iload_n 1, 1) := by decide +kernel
theorem dX7_hashText_35 : decode cX7_hashText 35 = .ok (.bipush (-128), 2) := by decide +kernel
theorem dX7_hashText_37 : decode cX7_hashText 37 = .ok (.bastore, 1) := by decide +kernel
theorem dX7_hashText_38 : decode cX7_hashText 38 = .ok (.iload_n 1, 1) := by decide +kernel
theorem dX7_hashText_39 : decode cX7_hashText 39 = .ok (.iconst 1, 1) := by decide +kernel
theorem dX7_hashText_40 : decode cX7_hashText 40 = .ok (.iadd, 1) := by decide +kernel
theorem dX7_hashText_41 : decode cX7_hashText 41 = .ok (.istore_n 3, 1) := by decide +kernel
theorem dX7_hashText_42 : decode cX7_hashText 42 = .ok (.iload_n 3, 1) := by decide +kernel
theorem dX7_hashText_43 : decode cX7_hashText 43 = .ok (.iload_n 2, 1) := by decide +kernel
theorem dX7_hashText_44 : decode cX7_hashText 44 = .ok (.if_icmp .ge 16, 3) := by decide +kernel
theorem dX7_hashText_47 : decode cX7_hashText 47 = .ok (.aload_n 0, 1) := by decide +kernel
theorem dX7_hashText_48 : decode cX7_hashText 48 = .ok (.getfield 15, 3) := by decide +kernel
theorem dX7_hashText_51 : decode cX7_hashText 51 = .ok (.iload_n 3, 1) := by decide +kernel
theorem dX7_hashText_52 : decode cX7_hashText 52 = .ok (.iconst 0, 1) := by decide +kernel
theorem dX7_hashText_53 : decode cX7_hashText 53 = .ok (.bastore, 1) := by decide +kernel
theorem dX7_hashText_54 : decode cX7_hashText 54 = .ok (.iinc 3 1, 3) := by decide +kernel
theorem dX7_hashText_57 : decode cX7_hashText 57 = .ok (.goto (-15), 3) := by decide +kernel
theorem dX7_hashText_60 : decode cX7_hashText 60 = .ok (.iconst 0, 1) := by decide +kernel
theorem dX7_hashText_61 : decode cX7_hashText 61 = .ok (.istore_n 3, 1) := by decide +kernel
theorem dX7_hashText_62 : decode cX7_hashText 62 = .ok (.iload_n 3, 1) := by decide +kernel
theorem dX7_hashText_63 : decode cX7_hashText 63 = .ok (.iconst 4, 1) := by decide +kernel
theorem dX7_hashText_64 : decode cX7_hashText 64 = .ok (.if_icmp .ge 28, 3) := by decide +kernel
theorem dX7_hashText_67 : decode cX7_hashText 67 = .ok (.aload_n 0, 1) := by decide +kernel
theorem dX7_hashText_68 : decode cX7_hashText 68 = .ok (.getfield 15, 3) := by decide +kernel
theorem dX7_hashText_71 : decode cX7_hashText 71 = .ok (.iload_n 2, 1) := by decide +kernel
theorem dX7_hashText_72 : decode cX7_hashText 72 = .ok (.iconst 4, 1) := by decide +kernel
theorem dX7_hashText_73 : decode cX7_hashText 73 = .ok (.isub, 1) := by decide +kernel
theorem dX7_hashText_74 : decode cX7_hashText 74 = .ok (.iload_n 3, 1) := by decide +kernel
theorem dX7_hashText_75 : decode cX7_hashText 75 = .ok (.iadd, 1) := by decide +kernel
theorem dX7_hashText_76 : decode cX7_hashText 76 = .ok (.iload_n 1, 1) := by decide +kernel
theorem dX7_hashText_77 : decode cX7_hashText 77 = .ok (.bipush 8, 2) := by decide +kernel
theorem dX7_hashText_79 : decode cX7_hashText 79 = .ok (.imul, 1) := by decide +kernel
theorem dX7_hashText_80 : decode cX7_hashText 80 = .ok (.iload_n 3, 1) := by decide +kernel
theorem dX7_hashText_81 : decode cX7_hashText 81 = .ok (.invokestatic 52, 3) := by decide +kernel
theorem dX7_hashText_84 : decode cX7_hashText 84 = .ok (.i2b, 1) := by decide +kernel
theorem dX7_hashText_85 : decode cX7_hashText 85 = .ok (.bastore, 1) := by decide +kernel
theorem dX7_hashText_86 : decode cX7_hashText 86 = .ok (.iinc 3 1, 3) := by decide +kernel
theorem dX7_hashText_89 : decode cX7_hashText 89 = .ok (.goto (-27), 3) := by decide +kernel
theorem dX7_hashText_92 : decode cX7_hashText 92 = .ok (.getstatic 62, 3) := by decide +kernel
theorem dX7_hashText_95 : decode cX7_hashText 95 = .ok (.iconst 0, 1) := by decide +kernel
theorem dX7_hashText_96 : decode cX7_hashText 96 = .ok (.aload_n 0, 1) := by decide +kernel
theorem dX7_hashText_97 : decode cX7_hashText 97 = .ok (.getfield 22, 3) := by decide +kernel
theorem dX7_hashText_100 : decode cX7_hashText 100 = .ok (.iconst 0, 1) := by decide +kernel
theorem dX7_hashText_101 : decode cX7_hashText 101 = .ok (.bipush 8, 2) := by decide +kernel
theorem dX7_hashText_103 : decode cX7_hashText 103 = .ok (.invokestatic 43, 3) := by decide +kernel
theorem dX7_hashText_106 : decode cX7_hashText 106 = .ok (.iconst 0, 1) := by decide +kernel
theorem dX7_hashText_107 : decode cX7_hashText 107 = .ok (.istore_n 3, 1) := by decide +kernel
theorem dX7_hashText_108 : decode cX7_hashText 108 = .ok (.iload_n 3, 1) := by decide +kernel
theorem dX7_hashText_109 : decode cX7_hashText 109 = .ok (.iload_n 2, 1) := by decide +kernel
theorem dX7_hashText_110 : decode cX7_hashText 110 = .ok (.if_icmp .ge 18, 3) := by decide +kernel
theorem dX7_hashText_113 : decode cX7_hashText 113 = .ok (.aload_n 0, 1) := by decide +kernel
theorem dX7_hashText_114 : decode cX7_hashText 114 = .ok (.iload_n 3, 1) := by decide +kernel
theorem dX7_hashText_115 : decode cX7_hashText 115 = .ok (.invokevirtual 65, 3) := by decide +kernel
theorem dX7_hashText_118 : decode cX7_hashText 118 = .ok (.aload_n 0, 1) := by decide +kernel
theorem dX7_hashText_119 : decode cX7_hashText 119 = .ok (.invokevirtual 68, 3) := by decide +kernel
theorem dX7_hashText_122 : decode cX7_hashText 122 = .ok (.iinc 3 64, 3) := by decide +kernel
theorem dX7_hashText_125 : decode cX7_hashText 125 = .ok (.goto (-17), 3) := by decide +kernel
theorem dX7_hashText_128 : decode cX7_hashText 128 = .ok (.return_, 1) := by decide +kernel
theorem dX7_spreadWords_0 : decode cX7_spreadWords 0 = .ok (.iconst 0, 1) := by decide +kernel
theorem dX7_spreadWords_1 : decode cX7_spreadWords 1 = .ok (.istore_n 2, 1) := by decide +kernel
theorem dX7_spreadWords_2 : decode cX7_spreadWords 2 = .ok (.iload_n 2, 1) := by decide +kernel
theorem dX7_spreadWords_3 : decode cX7_spreadWords 3 = .ok (.bipush 16, 2) := by decide +kernel
theorem dX7_spreadWords_5 : decode cX7_spreadWords 5 = .ok (.if_icmp .ge 79, 3) := by decide +kernel
theorem dX7_spreadWords_8 : decode cX7_spreadWords 8 = .ok (.iload_n 1, 1) := by decide +kernel
theorem dX7_spreadWords_9 : decode cX7_spreadWords 9 = .ok (.iconst 4, 1) := by decide +kernel
theorem dX7_spreadWords_10 : decode cX7_spreadWords 10 = .ok (.iload_n 2, 1) := by decide +kernel
theorem dX7_spreadWords_11 : decode cX7_spreadWords 11 = .ok (.imul, 1) := by decide +kernel
theorem dX7_spreadWords_12 : decode cX7_spreadWords 12 = .ok (.iadd, 1) := by decide +kernel
theorem dX7_spreadWords_13 : decode cX7_spreadWords 13 = .ok (.istore_n 3, 1) := by decide +kernel
theorem dX7_spreadWords_14 : decode cX7_spreadWords 14 = .ok (.aload_n 0, 1) := by decide +kernel
theorem dX7_spreadWords_15 : decode cX7_spreadWords 15 = .ok (.getfield 19, 3) := by decide +kernel
theorem dX7_spreadWords_18 : decode cX7_spreadWords 18 = .ok (.iload_n 2, 1) := by decide +kernel
theorem dX7_spreadWords_19 : decode cX7_spreadWords 19 = .ok (.aload_n 0, 1) := by decide +kernel
theorem dX7_spreadWords_20 : decode cX7_spreadWords 20 = .ok (.getfield 15, 3) := by decide +kernel
theorem dX7_spreadWords_23 : decode cX7_spreadWords 23 = .ok (.iload_n 3, 1) := by decide +kernel
theorem dX7_spreadWords_24 : decode cX7_spreadWords 24 = .ok (.baload, 1) := by decide +kernel
theorem dX7_spreadWords_25 : decode cX7_spreadWords 25 = .ok (.sipush 255, 3) := by decide +kernel
theorem dX7_spreadWords_28 : decode cX7_spreadWords 28 = .ok (.iand, 1) := by decide +kernel
theorem dX7_spreadWords_29 : decode cX7_spreadWords 29 = .ok (.bipush 24, 2) := by decide +kernel
theorem dX7_spreadWords_31 : decode cX7_spreadWords 31 = .ok (.ishl, 1) := by decide +kernel
theorem dX7_spreadWords_32 : decode cX7_spreadWords 32 = .ok (.aload_n 0, 1) := by decide +kernel
theorem dX7_spreadWords_33 : decode cX7_spreadWords 33 = .ok (.getfield 15, 3) := by decide +kernel
theorem dX7_spreadWords_36 : decode cX7_spreadWords 36 = .ok (.iload_n 3, 1) := by decide +kernel
theorem dX7_spreadWords_37 : decode cX7_spreadWords 37 = .ok (.iconst 1, 1) := by decide +kernel
theorem dX7_spreadWords_38 : decode cX7_spreadWords 38 = .ok (.iadd, 1) := by decide +kernel
theorem dX7_spreadWords_39 : decode cX7_spreadWords 39 = .ok (.baload, 1) := by decide +kernel
theorem dX7_spreadWords_40 : decode cX7_spreadWords 40 = .ok (.sipush 255, 3) := by decide +kernel
theorem dX7_spreadWords_43 : decode cX7_spreadWords 43 = .ok (.iand, 1) := by decide +kernel
theorem dX7_spreadWords_44 : decode cX7_spreadWords 44 = .ok (.bipush 16, 2) := by decide +kernel
theorem dX7_spreadWords_46 : decode cX7_spreadWords 46 = .ok (.ishl, 1) := by decide +kernel
theorem dX7_spreadWords_47 : decode cX7_spreadWords 47 = .ok (.ior, 1) := by decide +kernel
theorem dX7_spreadWords_48 : decode cX7_spreadWords 48 = .ok (.aload_n 0, 1) := by decide +kernel
theorem dX7_spreadWords_49 : decode cX7_spreadWords 49 = .ok (.getfield 15, 3) := by decide +kernel
theorem dX7_spreadWords_52 : decode cX7_spreadWords 52 = .ok (.iload_n 3, 1) := by decide +kernel
theorem dX7_spreadWords_53 : decode cX7_spreadWords 53 = .ok (.iconst 2, 1) := by decide +kernel
theorem dX7_spreadWords_54 : decode cX7_spreadWords 54 = .ok (.iadd, 1) := by decide +kernel
theorem dX7_spreadWords_55 : decode cX7_spreadWords 55 = .ok (.baload, 1) := by decide +kernel
theorem dX7_spreadWords_56 : decode cX7_spreadWords 56 = .ok (.sipush 255, 3) := by decide +kernel
theorem dX7_spreadWords_59 : decode cX7_spreadWords 59 = .ok (.iand, 1) := by decide +kernel
theorem dX7_spreadWords_60 : decode cX7_spreadWords 60 = .ok (.bipush 8, 2) := by decide +kernel
theorem dX7_spreadWords_62 : decode cX7_spreadWords 62 = .ok (.ishl, 1) := by decide +kernel
theorem dX7_spreadWords_63 : decode cX7_spreadWords 63 = .ok (.ior, 1) := by decide +kernel
theorem dX7_spreadWords_64 : decode cX7_spreadWords 64 = .ok (.aload_n 0, 1) := by decide +kernel
theorem dX7_spreadWords_65 : decode cX7_spreadWords 65 = .ok (.getfield 15, 3) := by decide +kernel
theorem dX7_spreadWords_68 : decode cX7_spreadWords 68 = .ok (.iload_n 3, 1) := by decide +kernel
theorem dX7_spreadWords_69 : decode cX7_spreadWords 69 = .ok (.iconst 3, 1) := by decide +kernel
theorem dX7_spreadWords_70 : decode cX7_spreadWords 70 = .ok (.iadd, 1) := by decide +kernel
theorem dX7_spreadWords_71 : decode cX7_spreadWords 71 = .ok (.baload, 1) := by decide +kernel
theorem dX7_spreadWords_72 : decode cX7_spreadWords 72 = .ok (.sipush 255, 3) := by decide +kernel
theorem dX7_spreadWords_75 : decode cX7_spreadWords 75 = .ok (.iand, 1) := by decide +kernel
theorem dX7_spreadWords_76 : decode cX7_spreadWords 76 = .ok (.ior, 1) := by decide +kernel
theorem dX7_spreadWords_77 : decode cX7_spreadWords 77 = .ok (.iastore, 1) := by decide +kernel
theorem dX7_spreadWords_78 : decode cX7_spreadWords 78 = .ok (.iinc 2 1, 3) := by decide +kernel
theorem dX7_spreadWords_81 : decode cX7_spreadWords 81 = .ok (.goto (-79), 3) := by decide +kernel
theorem dX7_spreadWords_84 : decode cX7_spreadWords 84 = .ok (.bipush 16, 2) := by decide +kernel
theorem dX7_spreadWords_86 : decode cX7_spreadWords 86 = .ok (.istore_n 2, 1) := by decide +kernel
theorem dX7_spreadWords_87 : decode cX7_spreadWords 87 = .ok (.iload_n 2, 1) := by decide +kernel
theorem dX7_spreadWords_88 : decode cX7_spreadWords 88 = .ok (.bipush 64, 2) := by decide +kernel
theorem dX7_spreadWords_90 : decode cX7_spreadWords 90 = .ok (.if_icmp .ge 116, 3) := by decide +kernel
theorem dX7_spreadWords_93 : decode cX7_spreadWords 93 = .ok (.aload_n 0, 1) := by decide +kernel
theorem dX7_spreadWords_94 : decode cX7_spreadWords 94 = .ok (.getfield 19, 3) := by decide +kernel
theorem dX7_spreadWords_97 : decode cX7_spreadWords 97 = .ok (.iload_n 2, 1) := by decide +kernel
theorem dX7_spreadWords_98 : decode cX7_spreadWords 98 = .ok (.bipush 15, 2) := by decide +kernel
theorem dX7_spreadWords_100 : decode cX7_spreadWords 100 = .ok (.isub, 1) := by decide +kernel
theorem dX7_spreadWords_101 : decode cX7_spreadWords 101 = .ok (.iaload, 1) := by decide +kernel
theorem dX7_spreadWords_102 : decode cX7_spreadWords 102 = .ok (.istore_n 3, 1) := by decide +kernel
theorem dX7_spreadWords_103 : decode cX7_spreadWords 103 = .ok (.aload_n 0, 1) := by decide +kernel
theorem dX7_spreadWords_104 : decode cX7_spreadWords 104 = .ok (.getfield 19, 3) := by decide +kernel
theorem dX7_spreadWords_107 : decode cX7_spreadWords 107 = .ok (.iload_n 2, 1) := by decide +kernel
theorem dX7_spreadWords_108 : decode cX7_spreadWords 108 = .ok (.iconst 2, 1) := by decide +kernel
theorem dX7_spreadWords_109 : decode cX7_spreadWords 109 = .ok (.isub, 1) := by decide +kernel
theorem dX7_spreadWords_110 : decode cX7_spreadWords 110 = .ok (.iaload, 1) := by decide +kernel
theorem dX7_spreadWords_111 : decode cX7_spreadWords 111 = .ok (.istore 4, 2) := by decide +kernel
theorem dX7_spreadWords_113 : decode cX7_spreadWords 113 = .ok (.iload_n 3, 1) := by decide +kernel
theorem dX7_spreadWords_114 : decode cX7_spreadWords 114 = .ok (.bipush 7, 2) := by decide +kernel
theorem dX7_spreadWords_116 : decode cX7_spreadWords 116 = .ok (.iushr, 1) := by decide +kernel
theorem dX7_spreadWords_117 : decode cX7_spreadWords 117 = .ok (.iload_n 3, 1) := by decide +kernel
theorem dX7_spreadWords_118 : decode cX7_spreadWords 118 = .ok (.bipush 25, 2) := by decide +kernel
theorem dX7_spreadWords_120 : decode cX7_spreadWords 120 = .ok (.ishl, 1) := by decide +kernel
theorem dX7_spreadWords_121 : decode cX7_spreadWords 121 = .ok (.ior, 1) := by decide +kernel
theorem dX7_spreadWords_122 : decode cX7_spreadWords 122 = .ok (.iload_n 3, 1) := by decide +kernel
theorem dX7_spreadWords_123 : decode cX7_spreadWords 123 = .ok (.bipush 18, 2) := by decide +kernel
theorem dX7_spreadWords_125 : decode cX7_spreadWords 125 = .ok (.iushr, 1) := by decide +kernel
theorem dX7_spreadWords_126 : decode cX7_spreadWords 126 = .ok (.iload_n 3, 1) := by decide +kernel
theorem dX7_spreadWords_127 : decode cX7_spreadWords 127 = .ok (.bipush 14, 2) := by decide +kernel
theorem dX7_spreadWords_129 : decode cX7_spreadWords 129 = .ok (.ishl, 1) := by decide +kernel
theorem dX7_spreadWords_130 : decode cX7_spreadWords 130 = .ok (.ior, 1) := by decide +kernel
theorem dX7_spreadWords_131 : decode cX7_spreadWords 131 = .ok (.ixor, 1) := by decide +kernel
theorem dX7_spreadWords_132 : decode cX7_spreadWords 132 = .ok (.iload_n 3, 1) := by decide +kernel
theorem dX7_spreadWords_133 : decode cX7_spreadWords 133 = .ok (.iconst 3, 1) := by decide +kernel
theorem dX7_spreadWords_134 : decode cX7_spreadWords 134 = .ok (.iushr, 1) := by decide +kernel
theorem dX7_spreadWords_135 : decode cX7_spreadWords 135 = .ok (.ixor, 1) := by decide +kernel
theorem dX7_spreadWords_136 : decode cX7_spreadWords 136 = .ok (.istore 5, 2) := by decide +kernel
theorem dX7_spreadWords_138 : decode cX7_spreadWords 138 = .ok (.iload 4, 2) := by decide +kernel
theorem dX7_spreadWords_140 : decode cX7_spreadWords 140 = .ok (.bipush 17, 2) := by decide +kernel
theorem dX7_spreadWords_142 : decode cX7_spreadWords 142 = .ok (.iushr, 1) := by decide +kernel
theorem dX7_spreadWords_143 : decode cX7_spreadWords 143 = .ok (.iload 4, 2) := by decide +kernel
theorem dX7_spreadWords_145 : decode cX7_spreadWords 145 = .ok (.bipush 15, 2) := by decide +kernel
theorem dX7_spreadWords_147 : decode cX7_spreadWords 147 = .ok (.ishl, 1) := by decide +kernel
theorem dX7_spreadWords_148 : decode cX7_spreadWords 148 = .ok (.ior, 1) := by decide +kernel
theorem dX7_spreadWords_149 : decode cX7_spreadWords 149 = .ok (.iload 4, 2) := by decide +kernel
theorem dX7_spreadWords_151 : decode cX7_spreadWords 151 = .ok (.bipush 19, 2) := by decide +kernel
theorem dX7_spreadWords_153 : decode cX7_spreadWords 153 = .ok (.iushr, 1) := by decide +kernel
theorem dX7_spreadWords_154 : decode cX7_spreadWords 154 = .ok (.iload 4, 2) := by decide +kernel
theorem dX7_spreadWords_156 : decode cX7_spreadWords 156 = .ok (.bipush 13, 2) := by decide +kernel
theorem dX7_spreadWords_158 : decode cX7_spreadWords 158 = .ok (.ishl, 1) := by decide +kernel
theorem dX7_spreadWords_159 : decode cX7_spreadWords 159 = .ok (.ior, 1) := by decide +kernel
theorem dX7_spreadWords_160 : decode cX7_spreadWords 160 = .ok (.ixor, 1) := by decide +kernel
theorem dX7_spreadWords_161 : decode cX7_spreadWords 161 = .ok (.iload 4, 2) := by decide +kernel
theorem dX7_spreadWords_163 : decode cX7_spreadWords 163 = .ok (.bipush 10, 2) := by decide +kernel
theorem dX7_spreadWords_165 : decode cX7_spreadWords 165 = .ok (.iushr, 1) := by decide +kernel
theorem dX7_spreadWords_166 : decode cX7_spreadWords 166 = .ok (.ixor, 1) := by decide +kernel
theorem dX7_spreadWords_167 : decode cX7_spreadWords 167 = .ok (.istore 6, 2) := by decide +kernel
theorem dX7_spreadWords_169 : decode cX7_spreadWords 169 = .ok (.aload_n 0, 1) := by decide +kernel
theorem dX7_spreadWords_170 : decode cX7_spreadWords 170 = .ok (.getfield 19, 3) := by decide +kernel
theorem dX7_spreadWords_173 : decode cX7_spreadWords 173 = .ok (.iload_n 2, 1) := by decide +kernel
theorem dX7_spreadWords_174 : decode cX7_spreadWords 174 = .ok (.aload_n 0, 1) := by decide +kernel
theorem dX7_spreadWords_175 : decode cX7_spreadWords 175 = .ok (.getfield 19, 3) := by decide +kernel
theorem dX7_spreadWords_178 : decode cX7_spreadWords 178 = .ok (.iload_n 2, 1) := by decide +kernel
theorem dX7_spreadWords_179 : decode cX7_spreadWords 179 = .ok (.bipush 16, 2) := by decide +kernel
theorem dX7_spreadWords_181 : decode cX7_spreadWords 181 = .ok (.isub, 1) := by decide +kernel
theorem dX7_spreadWords_182 : decode cX7_spreadWords 182 = .ok (.iaload, 1) := by decide +kernel
theorem dX7_spreadWords_183 : decode cX7_spreadWords 183 = .ok (.iload 5, 2) := by decide +kernel
theorem dX7_spreadWords_185 : decode cX7_spreadWords 185 = .ok (.iadd, 1) := by decide +kernel
theorem dX7_spreadWords_186 : decode cX7_spreadWords 186 = .ok (.aload_n 0, 1) := by decide +kernel
theorem dX7_spreadWords_187 : decode cX7_spreadWords 187 = .ok (.getfield 19, 3) := by decide +kernel
theorem dX7_spreadWords_190 : decode cX7_spreadWords 190 = .ok (.iload_n 2, 1) := by decide +kernel
theorem dX7_spreadWords_191 : decode cX7_spreadWords 191 = .ok (.bipush 7, 2) := by decide +kernel
theorem dX7_spreadWords_193 : decode cX7_spreadWords 193 = .ok (.isub, 1) := by decide +kernel
theorem dX7_spreadWords_194 : decode cX7_spreadWords 194 = .ok (.iaload, 1) := by decide +kernel
theorem dX7_spreadWords_195 : decode cX7_spreadWords 195 = .ok (.iadd, 1) := by decide +kernel
theorem dX7_spreadWords_196 : decode cX7_spreadWords 196 = .ok (.iload 6, 2) := by decide +kernel
theorem dX7_spreadWords_198 : decode cX7_spreadWords 198 = .ok (.iadd, 1) := by decide +kernel
theorem dX7_spreadWords_199 : decode cX7_spreadWords 199 = .ok (.iastore, 1) := by decide +kernel
theorem dX7_spreadWords_200 : decode cX7_spreadWords 200 = .ok (.iinc 2 1, 3) := by decide +kernel
theorem dX7_spreadWords_203 : decode cX7_spreadWords 203 = .ok (.goto (-116), 3) := by decide +kernel
theorem dX7_spreadWords_206 : decode cX7_spreadWords 206 = .ok (.return_, 1) := by decide +kernel
theorem dX7_mixWords_0 : decode cX7_mixWords 0 = .ok (.aload_n 0, 1) := by decide +kernel
theorem dX7_mixWords_1 : decode cX7_mixWords 1 = .ok (.getfield 22, 3) := by decide +kernel
theorem dX7_mixWords_4 : decode cX7_mixWords 4 = .ok (.iconst 0, 1) := by decide +kernel
theorem dX7_mixWords_5 : decode cX7_mixWords 5 = .ok (.iaload, 1) := by decide +kernel
theorem dX7_mixWords_6 : decode cX7_mixWords 6 = .ok (.istore_n 1, 1) := by decide +kernel
theorem dX7_mixWords_7 : decode cX7_mixWords 7 = .ok (.aload_n 0, 1) := by decide +kernel
theorem dX7_mixWords_8 : decode cX7_mixWords 8 = .ok (.getfield 22, 3) := by decide +kernel
theorem dX7_mixWords_11 : decode cX7_mixWords 11 = .ok (.iconst 1, 1) := by decide +kernel
theorem dX7_mixWords_12 : decode cX7_mixWords 12 = .ok (.iaload, 1) := by decide +kernel
theorem dX7_mixWords_13 : decode cX7_mixWords 13 = .ok (.istore_n 2, 1) := by decide +kernel
theorem dX7_mixWords_14 : decode cX7_mixWords 14 = .ok (.aload_n 0, 1) := by decide +kernel
theorem dX7_mixWords_15 : decode cX7_mixWords 15 = .ok (.getfield 22, 3) := by decide +kernel
theorem dX7_mixWords_18 : decode cX7_mixWords 18 = .ok (.iconst 2, 1) := by decide +kernel
theorem dX7_mixWords_19 : decode cX7_mixWords 19 = .ok (.iaload, 1) := by decide +kernel
theorem dX7_mixWords_20 : decode cX7_mixWords 20 = .ok (.istore_n 3, 1) := by decide +kernel
theorem dX7_mixWords_21 : decode cX7_mixWords 21 = .ok (.aload_n 0, 1) := by decide +kernel
theorem dX7_mixWords_22 : decode cX7_mixWords 22 = .ok (.getfield 22, 3) := by decide +kernel
theorem dX7_mixWords_25 : decode cX7_mixWords 25 = .ok (.iconst 3, 1) := by decide +kernel
theorem dX7_mixWords_26 : decode cX7_mixWords 26 = .ok (.iaload, 1) := by decide +kernel
theorem dX7_mixWords_27 : decode cX7_mixWords 27 = .ok (.istore 4, 2) := by decide +kernel
theorem dX7_mixWords_29 : decode cX7_mixWords 29 = .ok (.aload_n 0, 1) := by decide +kernel
theorem dX7_mixWords_30 : decode cX7_mixWords 30 = .ok (.getfield 22, 3) := by decide +kernel
theorem dX7_mixWords_33 : decode cX7_mixWords 33 = .ok (.iconst 4, 1) := by decide +kernel
theorem dX7_mixWords_34 : decode cX7_mixWords 34 = .ok (.iaload, 1) := by decide +kernel
theorem dX7_mixWords_35 : decode cX7_mixWords 35 = .ok (.istore 5, 2) := by decide +kernel
theorem dX7_mixWords_37 : decode cX7_mixWords 37 = .ok (.aload_n 0, 1) := by decide +kernel
theorem dX7_mixWords_38 : decode cX7_mixWords 38 = .ok (.getfield 22, 3) := by decide +kernel
theorem dX7_mixWords_41 : decode cX7_mixWords 41 = .ok (.iconst 5, 1) := by decide +kernel
theorem dX7_mixWords_42 : decode cX7_mixWords 42 = .ok (.iaload, 1) := by decide +kernel
theorem dX7_mixWords_43 : decode cX7_mixWords 43 = .ok (.istore 6, 2) := by decide +kernel
theorem dX7_mixWords_45 : decode cX7_mixWords 45 = .ok (.aload_n 0, 1) := by decide +kernel
theorem dX7_mixWords_46 : decode cX7_mixWords 46 = .ok (.getfield 22, 3) := by decide +kernel
theorem dX7_mixWords_49 : decode cX7_mixWords 49 = .ok (.bipush 6, 2) := by decide +kernel
theorem dX7_mixWords_51 : decode cX7_mixWords 51 = .ok (.iaload, 1) := by decide +kernel
theorem dX7_mixWords_52 : decode cX7_mixWords 52 = .ok (.istore 7, 2) := by decide +kernel
theorem dX7_mixWords_54 : decode cX7_mixWords 54 = .ok (.aload_n 0, 1) := by decide +kernel
theorem dX7_mixWords_55 : decode cX7_mixWords 55 = .ok (.getfield 22, 3) := by decide +kernel
theorem dX7_mixWords_58 : decode cX7_mixWords 58 = .ok (.bipush 7, 2) := by decide +kernel
theorem dX7_mixWords_60 : decode cX7_mixWords 60 = .ok (.iaload, 1) := by decide +kernel
theorem dX7_mixWords_61 : decode cX7_mixWords 61 = .ok (.istore 8, 2) := by decide +kernel
theorem dX7_mixWords_63 : decode cX7_mixWords 63 = .ok (.iconst 0, 1) := by decide +kernel
theorem dX7_mixWords_64 : decode cX7_mixWords 64 = .ok (.istore 9, 2) := by decide +kernel
theorem dX7_mixWords_66 : decode cX7_mixWords 66 = .ok (.iload 9, 2) := by decide +kernel
theorem dX7_mixWords_68 : decode cX7_mixWords 68 = .ok (.bipush 64, 2) := by decide +kernel
theorem dX7_mixWords_70 : decode cX7_mixWords 70 = .ok (.if_icmp .ge 160, 3) := by decide +kernel
theorem dX7_mixWords_73 : decode cX7_mixWords 73 = .ok (.iload 5, 2) := by decide +kernel
theorem dX7_mixWords_75 : decode cX7_mixWords 75 = .ok (.bipush 6, 2) := by decide +kernel
theorem dX7_mixWords_77 : decode cX7_mixWords 77 = .ok (.iushr, 1) := by decide +kernel
theorem dX7_mixWords_78 : decode cX7_mixWords 78 = .ok (.iload 5, 2) := by decide +kernel
theorem dX7_mixWords_80 : decode cX7_mixWords 80 = .ok (.bipush 26, 2) := by decide +kernel
theorem dX7_mixWords_82 : decode cX7_mixWords 82 = .ok (.ishl, 1) := by decide +kernel
theorem dX7_mixWords_83 : decode cX7_mixWords 83 = .ok (.ior, 1) := by decide +kernel
theorem dX7_mixWords_84 : decode cX7_mixWords 84 = .ok (.iload 5, 2) := by decide +kernel
theorem dX7_mixWords_86 : decode cX7_mixWords 86 = .ok (.bipush 11, 2) := by decide +kernel
theorem dX7_mixWords_88 : decode cX7_mixWords 88 = .ok (.iushr, 1) := by decide +kernel
theorem dX7_mixWords_89 : decode cX7_mixWords 89 = .ok (.iload 5, 2) := by decide +kernel
theorem dX7_mixWords_91 : decode cX7_mixWords 91 = .ok (.bipush 21, 2) := by decide +kernel
theorem dX7_mixWords_93 : decode cX7_mixWords 93 = .ok (.ishl, 1) := by decide +kernel
theorem dX7_mixWords_94 : decode cX7_mixWords 94 = .ok (.ior, 1) := by decide +kernel
theorem dX7_mixWords_95 : decode cX7_mixWords 95 = .ok (.ixor, 1) := by decide +kernel
theorem dX7_mixWords_96 : decode cX7_mixWords 96 = .ok (.iload 5, 2) := by decide +kernel
theorem dX7_mixWords_98 : decode cX7_mixWords 98 = .ok (.bipush 25, 2) := by decide +kernel
theorem dX7_mixWords_100 : decode cX7_mixWords 100 = .ok (.iushr, 1) := by decide +kernel
theorem dX7_mixWords_101 : decode cX7_mixWords 101 = .ok (.iload 5, 2) := by decide +kernel
theorem dX7_mixWords_103 : decode cX7_mixWords 103 = .ok (.bipush 7, 2) := by decide +kernel
theorem dX7_mixWords_105 : decode cX7_mixWords 105 = .ok (.ishl, 1) := by decide +kernel
theorem dX7_mixWords_106 : decode cX7_mixWords 106 = .ok (.ior, 1) := by decide +kernel
theorem dX7_mixWords_107 : decode cX7_mixWords 107 = .ok (.ixor, 1) := by decide +kernel
theorem dX7_mixWords_108 : decode cX7_mixWords 108 = .ok (.istore 10, 2) := by decide +kernel
theorem dX7_mixWords_110 : decode cX7_mixWords 110 = .ok (.iload 8, 2) := by decide +kernel
theorem dX7_mixWords_112 : decode cX7_mixWords 112 = .ok (.iload 10, 2) := by decide +kernel
theorem dX7_mixWords_114 : decode cX7_mixWords 114 = .ok (.iadd, 1) := by decide +kernel
theorem dX7_mixWords_115 : decode cX7_mixWords 115 = .ok (.iload 5, 2) := by decide +kernel
theorem dX7_mixWords_117 : decode cX7_mixWords 117 = .ok (.iload 6, 2) := by decide +kernel
theorem dX7_mixWords_119 : decode cX7_mixWords 119 = .ok (.iand, 1) := by decide +kernel
theorem dX7_mixWords_120 : decode cX7_mixWords 120 = .ok (.iload 5, 2) := by decide +kernel
theorem dX7_mixWords_122 : decode cX7_mixWords 122 = .ok (.iconst (-1), 1) := by decide +kernel
theorem dX7_mixWords_123 : decode cX7_mixWords 123 = .ok (.ixor, 1) := by decide +kernel
theorem dX7_mixWords_124 : decode cX7_mixWords 124 = .ok (.iload 7, 2) := by decide +kernel
theorem dX7_mixWords_126 : decode cX7_mixWords 126 = .ok (.iand, 1) := by decide +kernel
theorem dX7_mixWords_127 : decode cX7_mixWords 127 = .ok (.ixor, 1) := by decide +kernel
theorem dX7_mixWords_128 : decode cX7_mixWords 128 = .ok (.iadd, 1) := by decide +kernel
theorem dX7_mixWords_129 : decode cX7_mixWords 129 = .ok (.getstatic 71, 3) := by decide +kernel
theorem dX7_mixWords_132 : decode cX7_mixWords 132 = .ok (.iload 9, 2) := by decide +kernel
theorem dX7_mixWords_134 : decode cX7_mixWords 134 = .ok (.iaload, 1) := by decide +kernel
theorem dX7_mixWords_135 : decode cX7_mixWords 135 = .ok (.iadd, 1) := by decide +kernel
theorem dX7_mixWords_136 : decode cX7_mixWords 136 = .ok (.aload_n 0, 1) := by decide +kernel
theorem dX7_mixWords_137 : decode cX7_mixWords 137 = .ok (.getfield 19, 3) := by decide +kernel
theorem dX7_mixWords_140 : decode cX7_mixWords 140 = .ok (.iload 9, 2) := by decide +kernel
theorem dX7_mixWords_142 : decode cX7_mixWords 142 = .ok (.iaload, 1) := by decide +kernel
theorem dX7_mixWords_143 : decode cX7_mixWords 143 = .ok (.iadd, 1) := by decide +kernel
theorem dX7_mixWords_144 : decode cX7_mixWords 144 = .ok (.istore 11, 2) := by decide +kernel
theorem dX7_mixWords_146 : decode cX7_mixWords 146 = .ok (.iload_n 1, 1) := by decide +kernel
theorem dX7_mixWords_147 : decode cX7_mixWords 147 = .ok (.iconst 2, 1) := by decide +kernel
theorem dX7_mixWords_148 : decode cX7_mixWords 148 = .ok (.iushr, 1) := by decide +kernel
theorem dX7_mixWords_149 : decode cX7_mixWords 149 = .ok (.iload_n 1, 1) := by decide +kernel
theorem dX7_mixWords_150 : decode cX7_mixWords 150 = .ok (.bipush 30, 2) := by decide +kernel
theorem dX7_mixWords_152 : decode cX7_mixWords 152 = .ok (.ishl, 1) := by decide +kernel
theorem dX7_mixWords_153 : decode cX7_mixWords 153 = .ok (.ior, 1) := by decide +kernel
theorem dX7_mixWords_154 : decode cX7_mixWords 154 = .ok (.iload_n 1, 1) := by decide +kernel
theorem dX7_mixWords_155 : decode cX7_mixWords 155 = .ok (.bipush 13, 2) := by decide +kernel
theorem dX7_mixWords_157 : decode cX7_mixWords 157 = .ok (.iushr, 1) := by decide +kernel
theorem dX7_mixWords_158 : decode cX7_mixWords 158 = .ok (.iload_n 1, 1) := by decide +kernel
theorem dX7_mixWords_159 : decode cX7_mixWords 159 = .ok (.bipush 19, 2) := by decide +kernel
theorem dX7_mixWords_161 : decode cX7_mixWords 161 = .ok (.ishl, 1) := by decide +kernel
theorem dX7_mixWords_162 : decode cX7_mixWords 162 = .ok (.ior, 1) := by decide +kernel
theorem dX7_mixWords_163 : decode cX7_mixWords 163 = .ok (.ixor, 1) := by decide +kernel
theorem dX7_mixWords_164 : decode cX7_mixWords 164 = .ok (.iload_n 1, 1) := by decide +kernel
theorem dX7_mixWords_165 : decode cX7_mixWords 165 = .ok (.bipush 22, 2) := by decide +kernel
theorem dX7_mixWords_167 : decode cX7_mixWords 167 = .ok (.iushr, 1) := by decide +kernel
theorem dX7_mixWords_168 : decode cX7_mixWords 168 = .ok (.iload_n 1, 1) := by decide +kernel
theorem dX7_mixWords_169 : decode cX7_mixWords 169 = .ok (.bipush 10, 2) := by decide +kernel
theorem dX7_mixWords_171 : decode cX7_mixWords 171 = .ok (.ishl, 1) := by decide +kernel
theorem dX7_mixWords_172 : decode cX7_mixWords 172 = .ok (.ior, 1) := by decide +kernel
theorem dX7_mixWords_173 : decode cX7_mixWords 173 = .ok (.ixor, 1) := by decide +kernel
theorem dX7_mixWords_174 : decode cX7_mixWords 174 = .ok (.istore 12, 2) := by decide +kernel
theorem dX7_mixWords_176 : decode cX7_mixWords 176 = .ok (.iload 12, 2) := by decide +kernel
theorem dX7_mixWords_178 : decode cX7_mixWords 178 = .ok (.iload_n 1, 1) := by decide +kernel
theorem dX7_mixWords_179 : decode cX7_mixWords 179 = .ok (.iload_n 2, 1) := by decide +kernel
theorem dX7_mixWords_180 : decode cX7_mixWords 180 = .ok (.iand, 1) := by decide +kernel
theorem dX7_mixWords_181 : decode cX7_mixWords 181 = .ok (.iload_n 1, 1) := by decide +kernel
theorem dX7_mixWords_182 : decode cX7_mixWords 182 = .ok (.iload_n 3, 1) := by decide +kernel
theorem dX7_mixWords_183 : decode cX7_mixWords 183 = .ok (.iand, 1) := by decide +kernel
theorem dX7_mixWords_184 : decode cX7_mixWords 184 = .ok (.ixor, 1) := by decide +kernel
theorem dX7_mixWords_185 : decode cX7_mixWords 185 = .ok (.iload_n 2, 1) := by decide +kernel
theorem dX7_mixWords_186 : decode cX7_mixWords 186 = .ok (.iload_n 3, 1) := by decide +kernel
theorem dX7_mixWords_187 : decode cX7_mixWords 187 = .ok (.iand, 1) := by decide +kernel
theorem dX7_mixWords_188 : decode cX7_mixWords 188 = .ok (.ixor, 1) := by decide +kernel
theorem dX7_mixWords_189 : decode cX7_mixWords 189 = .ok (.iadd, 1) := by decide +kernel
theorem dX7_mixWords_190 : decode cX7_mixWords 190 = .ok (.istore 13, 2) := by decide +kernel
theorem dX7_mixWords_192 : decode cX7_mixWords 192 = .ok (.iload 7, 2) := by decide +kernel
theorem dX7_mixWords_194 : decode cX7_mixWords 194 = .ok (.istore 8, 2) := by decide +kernel
theorem dX7_mixWords_196 : decode cX7_mixWords 196 = .ok (.iload 6, 2) := by decide +kernel
theorem dX7_mixWords_198 : decode cX7_mixWords 198 = .ok (.istore 7, 2) := by decide +kernel
theorem dX7_mixWords_200 : decode cX7_mixWords 200 = .ok (.iload 5, 2) := by decide +kernel
theorem dX7_mixWords_202 : decode cX7_mixWords 202 = .ok (.istore 6, 2) := by decide +kernel
theorem dX7_mixWords_204 : decode cX7_mixWords 204 = .ok (.iload 4, 2) := by decide +kernel
theorem dX7_mixWords_206 : decode cX7_mixWords 206 = .ok (.iload 11, 2) := by decide +kernel
theorem dX7_mixWords_208 : decode cX7_mixWords 208 = .ok (.iadd, 1) := by decide +kernel
theorem dX7_mixWords_209 : decode cX7_mixWords 209 = .ok (.istore 5, 2) := by decide +kernel
theorem dX7_mixWords_211 : decode cX7_mixWords 211 = .ok (.iload_n 3, 1) := by decide +kernel
theorem dX7_mixWords_212 : decode cX7_mixWords 212 = .ok (.istore 4, 2) := by decide +kernel
theorem dX7_mixWords_214 : decode cX7_mixWords 214 = .ok (.iload_n 2, 1) := by decide +kernel
theorem dX7_mixWords_215 : decode cX7_mixWords 215 = .ok (.istore_n 3, 1) := by decide +kernel
theorem dX7_mixWords_216 : decode cX7_mixWords 216 = .ok (.iload_n 1, 1) := by decide +kernel
theorem dX7_mixWords_217 : decode cX7_mixWords 217 = .ok (.istore_n 2, 1) := by decide +kernel
theorem dX7_mixWords_218 : decode cX7_mixWords 218 = .ok (.iload 11, 2) := by decide +kernel
theorem dX7_mixWords_220 : decode cX7_mixWords 220 = .ok (.iload 13, 2) := by decide +kernel
theorem dX7_mixWords_222 : decode cX7_mixWords 222 = .ok (.iadd, 1) := by decide +kernel
theorem dX7_mixWords_223 : decode cX7_mixWords 223 = .ok (.istore_n 1, 1) := by decide +kernel
theorem dX7_mixWords_224 : decode cX7_mixWords 224 = .ok (.iinc 9 1, 3) := by decide +kernel
theorem dX7_mixWords_227 : decode cX7_mixWords 227 = .ok (.goto (-161), 3) := by decide +kernel
theorem dX7_mixWords_230 : decode cX7_mixWords 230 = .ok (.aload_n 0, 1) := by decide +kernel
theorem dX7_mixWords_231 : decode cX7_mixWords 231 = .ok (.getfield 22, 3) := by decide +kernel
theorem dX7_mixWords_234 : decode cX7_mixWords 234 = .ok (.iconst 0, 1) := by decide +kernel
theorem dX7_mixWords_235 : decode cX7_mixWords 235 = .ok (.dup2, 1) := by decide +kernel
theorem dX7_mixWords_236 : decode cX7_mixWords 236 = .ok (.iaload, 1) := by decide +kernel
theorem dX7_mixWords_237 : decode cX7_mixWords 237 = .ok (.iload_n 1, 1) := by decide +kernel
theorem dX7_mixWords_238 : decode cX7_mixWords 238 = .ok (.iadd, 1) := by decide +kernel
theorem dX7_mixWords_239 : decode cX7_mixWords 239 = .ok (.iastore, 1) := by decide +kernel
theorem dX7_mixWords_240 : decode cX7_mixWords 240 = .ok (.aload_n 0, 1) := by decide +kernel
theorem dX7_mixWords_241 : decode cX7_mixWords 241 = .ok (.getfield 22, 3) := by decide +kernel
theorem dX7_mixWords_244 : decode cX7_mixWords 244 = .ok (.iconst 1, 1) := by decide +kernel
theorem dX7_mixWords_245 : decode cX7_mixWords 245 = .ok (.dup2, 1) := by decide +kernel
theorem dX7_mixWords_246 : decode cX7_mixWords 246 = .ok (.iaload, 1) := by decide +kernel
theorem dX7_mixWords_247 : decode cX7_mixWords 247 = .ok (.iload_n 2, 1) := by decide +kernel
theorem dX7_mixWords_248 : decode cX7_mixWords 248 = .ok (.iadd, 1) := by decide +kernel
theorem dX7_mixWords_249 : decode cX7_mixWords 249 = .ok (.iastore, 1) := by decide +kernel
theorem dX7_mixWords_250 : decode cX7_mixWords 250 = .ok (.aload_n 0, 1) := by decide +kernel
theorem dX7_mixWords_251 : decode cX7_mixWords 251 = .ok (.getfield 22, 3) := by decide +kernel
theorem dX7_mixWords_254 : decode cX7_mixWords 254 = .ok (.iconst 2, 1) := by decide +kernel
theorem dX7_mixWords_255 : decode cX7_mixWords 255 = .ok (.dup2, 1) := by decide +kernel
theorem dX7_mixWords_256 : decode cX7_mixWords 256 = .ok (.iaload, 1) := by decide +kernel
theorem dX7_mixWords_257 : decode cX7_mixWords 257 = .ok (.iload_n 3, 1) := by decide +kernel
theorem dX7_mixWords_258 : decode cX7_mixWords 258 = .ok (.iadd, 1) := by decide +kernel
theorem dX7_mixWords_259 : decode cX7_mixWords 259 = .ok (.iastore, 1) := by decide +kernel
theorem dX7_mixWords_260 : decode cX7_mixWords 260 = .ok (.aload_n 0, 1) := by decide +kernel
theorem dX7_mixWords_261 : decode cX7_mixWords 261 = .ok (.getfield 22, 3) := by decide +kernel
theorem dX7_mixWords_264 : decode cX7_mixWords 264 = .ok (.iconst 3, 1) := by decide +kernel
theorem dX7_mixWords_265 : decode cX7_mixWords 265 = .ok (.dup2, 1) := by decide +kernel
theorem dX7_mixWords_266 : decode cX7_mixWords 266 = .ok (.iaload, 1) := by decide +kernel
theorem dX7_mixWords_267 : decode cX7_mixWords 267 = .ok (.iload 4, 2) := by decide +kernel
theorem dX7_mixWords_269 : decode cX7_mixWords 269 = .ok (.iadd, 1) := by decide +kernel
theorem dX7_mixWords_270 : decode cX7_mixWords 270 = .ok (.iastore, 1) := by decide +kernel
theorem dX7_mixWords_271 : decode cX7_mixWords 271 = .ok (.aload_n 0, 1) := by decide +kernel
theorem dX7_mixWords_272 : decode cX7_mixWords 272 = .ok (.getfield 22, 3) := by decide +kernel
theorem dX7_mixWords_275 : decode cX7_mixWords 275 = .ok (.iconst 4, 1) := by decide +kernel
theorem dX7_mixWords_276 : decode cX7_mixWords 276 = .ok (.dup2, 1) := by decide +kernel
theorem dX7_mixWords_277 : decode cX7_mixWords 277 = .ok (.iaload, 1) := by decide +kernel
theorem dX7_mixWords_278 : decode cX7_mixWords 278 = .ok (.iload 5, 2) := by decide +kernel
theorem dX7_mixWords_280 : decode cX7_mixWords 280 = .ok (.iadd, 1) := by decide +kernel
theorem dX7_mixWords_281 : decode cX7_mixWords 281 = .ok (.iastore, 1) := by decide +kernel
theorem dX7_mixWords_282 : decode cX7_mixWords 282 = .ok (.aload_n 0, 1) := by decide +kernel
theorem dX7_mixWords_283 : decode cX7_mixWords 283 = .ok (.getfield 22, 3) := by decide +kernel
theorem dX7_mixWords_286 : decode cX7_mixWords 286 = .ok (.iconst 5, 1) := by decide +kernel
theorem dX7_mixWords_287 : decode cX7_mixWords 287 = .ok (.dup2, 1) := by decide +kernel
theorem dX7_mixWords_288 : decode cX7_mixWords 288 = .ok (.iaload, 1) := by decide +kernel
theorem dX7_mixWords_289 : decode cX7_mixWords 289 = .ok (.iload 6, 2) := by decide +kernel
theorem dX7_mixWords_291 : decode cX7_mixWords 291 = .ok (.iadd, 1) := by decide +kernel
theorem dX7_mixWords_292 : decode cX7_mixWords 292 = .ok (.iastore, 1) := by decide +kernel
theorem dX7_mixWords_293 : decode cX7_mixWords 293 = .ok (.aload_n 0, 1) := by decide +kernel
theorem dX7_mixWords_294 : decode cX7_mixWords 294 = .ok (.getfield 22, 3) := by decide +kernel
theorem dX7_mixWords_297 : decode cX7_mixWords 297 = .ok (.bipush 6, 2) := by decide +kernel
theorem dX7_mixWords_299 : decode cX7_mixWords 299 = .ok (.dup2, 1) := by decide +kernel
theorem dX7_mixWords_300 : decode cX7_mixWords 300 = .ok (.iaload, 1) := by decide +kernel
theorem dX7_mixWords_301 : decode cX7_mixWords 301 = .ok (.iload 7, 2) := by decide +kernel
theorem dX7_mixWords_303 : decode cX7_mixWords 303 = .ok (.iadd, 1) := by decide +kernel
theorem dX7_mixWords_304 : decode cX7_mixWords 304 = .ok (.iastore, 1) := by decide +kernel
theorem dX7_mixWords_305 : decode cX7_mixWords 305 = .ok (.aload_n 0, 1) := by decide +kernel
theorem dX7_mixWords_306 : decode cX7_mixWords 306 = .ok (.getfield 22, 3) := by decide +kernel
theorem dX7_mixWords_309 : decode cX7_mixWords 309 = .ok (.bipush 7, 2) := by decide +kernel
theorem dX7_mixWords_311 : decode cX7_mixWords 311 = .ok (.dup2, 1) := by decide +kernel
theorem dX7_mixWords_312 : decode cX7_mixWords 312 = .ok (.iaload, 1) := by decide +kernel
theorem dX7_mixWords_313 : decode cX7_mixWords 313 = .ok (.iload 8, 2) := by decide +kernel
theorem dX7_mixWords_315 : decode cX7_mixWords 315 = .ok (.iadd, 1) := by decide +kernel
theorem dX7_mixWords_316 : decode cX7_mixWords 316 = .ok (.iastore, 1) := by decide +kernel
theorem dX7_mixWords_317 : decode cX7_mixWords 317 = .ok (.return_, 1) := by decide +kernel
theorem dX8_init_0 : decode cX8_init 0 = .ok (.aload_n 0, 1) := by decide +kernel
theorem dX8_init_1 : decode cX8_init 1 = .ok (.invokespecial 3, 3) := by decide +kernel
theorem dX8_init_4 : decode cX8_init 4 = .ok (.aload_n 0, 1) := by decide +kernel
theorem dX8_init_5 : decode cX8_init 5 = .ok (.iconst (-1), 1) := by decide +kernel
theorem dX8_init_6 : decode cX8_init 6 = .ok (.putfield 9, 3) := by decide +kernel
theorem dX8_init_9 : decode cX8_init 9 = .ok (.return_, 1) := by decide +kernel
theorem dX8_read_0 : decode cX8_read 0 = .ok (.aload_n 0, 1) := by decide +kernel
theorem dX8_read_1 : decode cX8_read 1 = .ok (.iload_n 1, 1) := by decide +kernel
theorem dX8_read_2 : decode cX8_read 2 = .ok (.putfield 9, 3) := by decide +kernel
theorem dX8_read_5 : decode cX8_read 5 = .ok (.aload_n 0, 1) := by decide +kernel
theorem dX8_read_6 : decode cX8_read 6 = .ok (.iconst 0, 1) := by decide +kernel
theorem dX8_read_7 : decode cX8_read 7 = .ok (.putfield 15, 3) := by decide +kernel
theorem dX8_read_10 : decode cX8_read 10 = .ok (.aload_n 0, 1) := by decide +kernel
theorem dX8_read_11 : decode cX8_read 11 = .ok (.iconst 0, 1) := by decide +kernel
theorem dX8_read_12 : decode cX8_read 12 = .ok (.putfield 18, 3) := by decide +kernel
theorem dX8_read_15 : decode cX8_read 15 = .ok (.aload_n 0, 1) := by decide +kernel
theorem dX8_read_16 : decode cX8_read 16 = .ok (.iconst 0, 1) := by decide +kernel
theorem dX8_read_17 : decode cX8_read 17 = .ok (.putfield 22, 3) := by decide +kernel
theorem dX8_read_20 : decode cX8_read 20 = .ok (.aload_n 0, 1) := by decide +kernel
theorem dX8_read_21 : decode cX8_read 21 = .ok (.iconst 0, 1) := by decide +kernel
theorem dX8_read_22 : decode cX8_read 22 = .ok (.putfield 25, 3) := by decide +kernel
theorem dX8_read_25 : decode cX8_read 25 = .ok (.aload_n 2, 1) := by decide +kernel
theorem dX8_read_26 : decode cX8_read 26 = .ok (.ifnonnull 4, 3) := by decide +kernel
theorem dX8_read_29 : decode cX8_read 29 = .ok (.return_, 1) := by decide +kernel
theorem dX8_read_30 : decode cX8_read 30 = .ok (.aload_n 2, 1) := by decide +kernel
theorem dX8_read_31 : decode cX8_read 31 = .ok (.getfield 28, 3) := by decide +kernel
theorem dX8_read_34 : decode cX8_read 34 = .ok (.iconst 0, 1) := by decide +kernel
theorem dX8_read_35 : decode cX8_read 35 = .ok (.aaload, 1) := by decide +kernel
theorem dX8_read_36 : decode cX8_read 36 = .ok (.astore 6, 2) := by decide +kernel
theorem dX8_read_38 : decode cX8_read 38 = .ok (.aload_n 2, 1) := by decide +kernel
theorem dX8_read_39 : decode cX8_read 39 = .ok (.getfield 28, 3) := by decide +kernel
theorem dX8_read_42 : decode cX8_read 42 = .ok (.iconst 1, 1) := by decide +kernel
theorem dX8_read_43 : decode cX8_read 43 = .ok (.aaload, 1) := by decide +kernel
theorem dX8_read_44 : decode cX8_read 44 = .ok (.astore 7, 2) := by decide +kernel
theorem dX8_read_46 : decode cX8_read 46 = .ok (.aload_n 2, 1) := by decide +kernel
theorem dX8_read_47 : decode cX8_read 47 = .ok (.getfield 28, 3) := by decide +kernel
theorem dX8_read_50 : decode cX8_read 50 = .ok (.iconst 2, 1) := by decide +kernel
theorem dX8_read_51 : decode cX8_read 51 = .ok (.aaload, 1) := by decide +kernel
theorem dX8_read_52 : decode cX8_read 52 = .ok (.astore 8, 2) := by decide +kernel
theorem dX8_read_54 : decode cX8_read 54 = .ok (.aload_n 2, 1) := by decide +kernel
theorem dX8_read_55 : decode cX8_read 55 = .ok (.getfield 28, 3) := by decide +kernel
theorem dX8_read_58 : decode cX8_read 58 = .ok (.iconst 3, 1) := by decide +kernel
theorem dX8_read_59 : decode cX8_read 59 = .ok (.aaload, 1) := by decide +kernel
theorem dX8_read_60 : decode cX8_read 60 = .ok (.astore 9, 2) := by decide +kernel
theorem dX8_read_62 : decode cX8_read 62 = .ok (.aload_n 2, 1) := by decide +kernel
theorem dX8_read_63 : decode cX8_read 63 = .ok (.iconst 0, 1) := by decide +kernel
theorem dX8_read_64 : decode cX8_read 64 = .ok (.aload_n 3, 1) := by decide +kernel
theorem dX8_read_65 : decode cX8_read 65 = .ok (.aload 4, 2) := by decide +kernel
theorem dX8_read_67 : decode cX8_read 67 = .ok (.iload 5, 2) := by decide +kernel
theorem dX8_read_69 : decode cX8_read 69 = .ok (.invokestatic 34, 3) := by decide +kernel
theorem dX8_read_72 : decode cX8_read 72 = .ok (.istore 10, 2) := by decide +kernel
theorem dX8_read_74 : decode cX8_read 74 = .ok (.aload_n 0, 1) := by decide +kernel
theorem dX8_read_75 : decode cX8_read 75 = .ok (.aload_n 2, 1) := by decide +kernel
theorem dX8_read_76 : decode cX8_read 76 = .ok (.iconst 2, 1) := by decide +kernel
theorem dX8_read_77 : decode cX8_read 77 = .ok (.aload_n 3, 1) := by decide +kernel
theorem dX8_read_78 : decode cX8_read 78 = .ok (.aload 4, 2) := by decide +kernel
theorem dX8_read_80 : decode cX8_read 80 = .ok (.iload 5, 2) := by decide +kernel
theorem dX8_read_82 : decode cX8_read 82 = .ok (.invokestatic 34, 3) := by decide +kernel
theorem dX8_read_85 : decode cX8_read 85 = .ok (.putfield 25, 3) := by decide +kernel
theorem dX8_read_88 : decode cX8_read 88 = .ok (.aload_n 2, 1) := by decide +kernel
theorem dX8_read_89 : decode cX8_read 89 = .ok (.iconst 1, 1) := by decide +kernel
theorem dX8_read_90 : decode cX8_read 90 = .ok (.aload_n 3, 1) := by decide +kernel
theorem dX8_read_91 : decode cX8_read 91 = .ok (.aload 4, 2) := by decide +kernel
theorem dX8_read_93 : decode cX8_read 93 = .ok (.iload 5, 2) := by decide +kernel
theorem dX8_read_95 : decode cX8_read 95 = .ok (.invokestatic 34, 3) := by decide +kernel
theorem dX8_read_98 : decode cX8_read 98 = .ok (.istore 11, 2) := by decide +kernel
theorem dX8_read_100 : decode cX8_read 100 = .ok (.aload_n 0, 1) := by decide +kernel
theorem dX8_read_101 : decode cX8_read 101 = .ok (.iload 10, 2) := by decide +kernel
theorem dX8_read_103 : decode cX8_read 103 = .ok (.ifCond .eq 12, 3) := by decide +kernel
theorem dX8_read_106 : decode cX8_read 106 = .ok (.aload 6, 2) := by decide +kernel
theorem dX8_read_108 : decode cX8_read 108 = .ok (.iconst 3, 1) := by decide +kernel
theorem dX8_read_109 : decode cX8_read 109 = .ok (.invokevirtual 38, 3) := by decide +kernel
theorem dX8_read_112 : decode cX8_read 112 = .ok (.goto 4, 3) := by decide +kernel
theorem dX8_read_115 : decode cX8_read 115 = .ok (.iconst 0, 1) := by decide +kernel
theorem dX8_read_116 : decode cX8_read 116 = .ok (.putfield 15, 3) := by decide +kernel
theorem dX8_read_119 : decode cX8_read 119 = .ok (.aload_n 0, 1) := by decide +kernel
theorem dX8_read_120 : decode cX8_read 120 = .ok (.iload 10, 2) := by decide +kernel
theorem dX8_read_122 : decode cX8_read 122 = .ok (.ifCond .eq 39, 3) := by decide +kernel
theorem dX8_read_125 : decode cX8_read 125 = .ok (.iload 11, 2) := by decide +kernel
theorem dX8_read_127 : decode cX8_read 127 = .ok (.ifCond .eq 34, 3) := by decide +kernel
theorem dX8_read_130 : decode cX8_read 130 = .ok (.aload_n 0, 1) := by decide +kernel
theorem dX8_read_131 : decode cX8_read 131 = .ok (.getfield 25, 3) := by decide +kernel
theorem dX8_read_134 : decode cX8_read 134 = .ok (.ifCond .eq 27, 3) := by decide +kernel
theorem dX8_read_137 : decode cX8_read 137 = .ok (.aload 7, 2) := by decide +kernel
theorem dX8_read_139 : decode cX8_read 139 = .ok (.aload 6, 2) := by decide +kernel
theorem dX8_read_141 : decode cX8_read 141 = .ok (.invokestatic 44, 3) := by decide +kernel
theorem dX8_read_144 : decode cX8_read 144 = .ok (.ifCond .eq 17, 3) := by decide +kernel
theorem dX8_read_147 : decode cX8_read 147 = .ok (.aload 8, 2) := by decide +kernel
theorem dX8_read_149 : decode cX8_read 149 = .ok (.aload 6, 2) := by decide +kernel
theorem dX8_read_151 : decode cX8_read 151 = .ok (.invokestatic 44, 3) := by decide +kernel
theorem dX8_read_154 : decode cX8_read 154 = .ok (.ifCond .eq 7, 3) := by decide +kernel
theorem dX8_read_157 : decode cX8_read 157 = .ok (.iconst 1, 1) := by decide +kernel
theorem dX8_read_158 : decode cX8_read 158 = .ok (.goto 4, 3) := by decide +kernel
theorem dX8_read_161 : decode cX8_read 161 = .ok (.iconst 0, 1) := by decide +kernel
theorem dX8_read_162 : decode cX8_read 162 = .ok (.putfield 18, 3) := by decide +kernel
theorem dX8_read_165 : decode cX8_read 165 = .ok (.aload_n 0, 1) := by decide +kernel
theorem dX8_read_166 : decode cX8_read 166 = .ok (.iload 10, 2) := by decide +kernel
theorem dX8_read_168 : decode cX8_read 168 = .ok (.ifCond .eq 43, 3) := by decide +kernel
theorem dX8_read_171 : decode cX8_read 171 = .ok (.aload_n 2, 1) := by decide +kernel
theorem dX8_read_172 : decode cX8_read 172 = .ok (.iconst 3, 1) := by decide +kernel
theorem dX8_read_173 : decode cX8_read 173 = .ok (.aload_n 3, 1) := by decide +kernel
theorem dX8_read_174 : decode cX8_read 174 = .ok (.aload 4, 2) := by decide +kernel
theorem dX8_read_176 : decode cX8_read 176 = .ok (.iload 5, 2) := by decide +kernel
theorem dX8_read_178 : decode cX8_read 178 = .ok (.invokestatic 34, 3) := by decide +kernel
theorem dX8_read_181 : decode cX8_read 181 = .ok (.ifCond .eq 30, 3) := by decide +kernel
theorem dX8_read_184 : decode cX8_read 184 = .ok (.aload 9, 2) := by decide +kernel
theorem dX8_read_186 : decode cX8_read 186 = .ok (.aload 6, 2) := by decide +kernel
theorem dX8_read_188 : decode cX8_read 188 = .ok (.invokestatic 44, 3) := by decide +kernel
theorem dX8_read_191 : decode cX8_read 191 = .ok (.ifCond .eq 20, 3) := by decide +kernel
theorem dX8_read_194 : decode cX8_read 194 = .ok (.aload 9, 2) := by decide +kernel
theorem dX8_read_196 : decode cX8_read 196 = .ok (.iconst 1, 1) := by decide +kernel
theorem dX8_read_197 : decode cX8_read 197 = .ok (.invokevirtual 48, 3) := by decide +kernel
theorem dX8_read_200 : decode cX8_read 200 = .ok (.aload_n 3, 1) := by decide +kernel
theorem dX8_read_201 : decode cX8_read 201 = .ok (.invokevirtual 51, 3) := by decide +kernel
theorem dX8_read_204 : decode cX8_read 204 = .ok (.if_icmp .ne 7, 3) := by decide +kernel
theorem dX8_read_207 : decode cX8_read 207 = .ok (.iconst 1, 1) := by decide +kernel
theorem dX8_read_208 : decode cX8_read 208 = .ok (.goto 4, 3) := by decide +kernel
theorem dX8_read_211 : decode cX8_read 211 = .ok (.iconst 0, 1) := by decide +kernel
theorem dX8_read_212 : decode cX8_read 212 = .ok (.putfield 22, 3) := by decide +kernel
theorem dX8_read_215 : decode cX8_read 215 = .ok (.aload_n 0, 1) := by decide +kernel
theorem dX8_read_216 : decode cX8_read 216 = .ok (.aload 8, 2) := by decide +kernel
theorem dX8_read_218 : decode cX8_read 218 = .ok (.bipush 21, 2) := by decide +kernel
theorem dX8_read_220 : decode cX8_read 220 = .ok (.invokevirtual 48, 3) := by decide +kernel
theorem dX8_read_223 : decode cX8_read 223 = .ok (.putfield 57, 3) := by decide +kernel
theorem dX8_read_226 : decode cX8_read 226 = .ok (.aload_n 0, 1) := by decide +kernel
theorem dX8_read_227 : decode cX8_read 227 = .ok (.aload 9, 2) := by decide +kernel
theorem dX8_read_229 : decode cX8_read 229 = .ok (.bipush 21, 2) := by decide +kernel
theorem dX8_read_231 : decode cX8_read 231 = .ok (.invokevirtual 60, 3) := by decide +kernel
theorem dX8_read_234 : decode cX8_read 234 = .ok (.putfield 63, 3) := by decide +kernel
theorem dX8_read_237 : decode cX8_read 237 = .ok (.aload_n 0, 1) := by decide +kernel
theorem dX8_read_238 : decode cX8_read 238 = .ok (.aload 9, 2) := by decide +kernel
theorem dX8_read_240 : decode cX8_read 240 = .ok (.bipush 22, 2) := by decide +kernel
theorem dX8_read_242 : decode cX8_read 242 = .ok (.invokevirtual 60, 3) := by decide +kernel
theorem dX8_read_245 : decode cX8_read 245 = .ok (.putfield 66, 3) := by decide +kernel
theorem dX8_read_248 : decode cX8_read 248 = .ok (.aload_n 0, 1) := by decide +kernel
theorem dX8_read_249 : decode cX8_read 249 = .ok (.aload 7, 2) := by decide +kernel
theorem dX8_read_251 : decode cX8_read 251 = .ok (.bipush 22, 2) := by decide +kernel
theorem dX8_read_253 : decode cX8_read 253 = .ok (.invokevirtual 60, 3) := by decide +kernel
theorem dX8_read_256 : decode cX8_read 256 = .ok (.putfield 69, 3) := by decide +kernel
theorem dX8_read_259 : decode cX8_read 259 = .ok (.return_, 1) := by decide +kernel
theorem dX8_classHeld_0 : decode cX8_classHeld 0 = .ok (.aload_n 0, 1) := by decide +kernel
theorem dX8_classHeld_1 : decode cX8_classHeld 1 = .ok (.getfield 22, 3) := by decide +kernel
theorem dX8_classHeld_4 : decode cX8_classHeld 4 = .ok (.ifCond .eq 8, 3) := by decide +kernel
theorem dX8_classHeld_7 : decode cX8_classHeld 7 = .ok (.aload_n 0, 1) := by decide +kernel
theorem dX8_classHeld_8 : decode cX8_classHeld 8 = .ok (.getfield 66, 3) := by decide +kernel
theorem dX8_classHeld_11 : decode cX8_classHeld 11 = .ok (.ireturn, 1) := by decide +kernel
theorem dX8_classHeld_12 : decode cX8_classHeld 12 = .ok (.aload_n 0, 1) := by decide +kernel
theorem dX8_classHeld_13 : decode cX8_classHeld 13 = .ok (.getfield 18, 3) := by decide +kernel
theorem dX8_classHeld_16 : decode cX8_classHeld 16 = .ok (.ifCond .eq 10, 3) := by decide +kernel
theorem dX8_classHeld_19 : decode cX8_classHeld 19 = .ok (.aload_n 0, 1) := by decide +kernel
theorem dX8_classHeld_20 : decode cX8_classHeld 20 = .ok (.getfield 69, 3) := by decide +kernel
theorem dX8_classHeld_23 : decode cX8_classHeld 23 = .ok (.goto 4, 3) := by decide +kernel
theorem dX8_classHeld_26 : decode cX8_classHeld 26 = .ok (.iconst (-1), 1) := by decide +kernel
theorem dX8_classHeld_27 : decode cX8_classHeld 27 = .ok (.ireturn, 1) := by decide +kernel
theorem dX8_isHeldBy_0 : decode cX8_isHeldBy 0 = .ok (.aload_n 0, 1) := by decide +kernel
theorem dX8_isHeldBy_1 : decode cX8_isHeldBy 1 = .ok (.bipush 7, 2) := by decide +kernel
theorem dX8_isHeldBy_3 : decode cX8_isHeldBy 3 = .ok (.aload_n 1, 1) := by decide +kernel
theorem dX8_isHeldBy_4 : decode cX8_isHeldBy 4 = .ok (.iconst 1, 1) := by decide +kernel
theorem dX8_isHeldBy_5 : decode cX8_isHeldBy 5 = .ok (.bipush 6, 2) := by decide +kernel
theorem dX8_isHeldBy_7 : decode cX8_isHeldBy 7 = .ok (.invokevirtual 72, 3) := by decide +kernel
theorem dX8_isHeldBy_10 : decode cX8_isHeldBy 10 = .ok (.ireturn, 1) := by decide +kernel
theorem dX8_isGood_0 : decode cX8_isGood 0 = .ok (.iload_n 1, 1) := by decide +kernel
theorem dX8_isGood_1 : decode cX8_isGood 1 = .ok (.invokestatic 76, 3) := by decide +kernel
theorem dX8_isGood_4 : decode cX8_isGood 4 = .ok (.ifCond .eq 12, 3) := by decide +kernel
theorem dX8_isGood_7 : decode cX8_isGood 7 = .ok (.aload_n 0, 1) := by decide +kernel
theorem dX8_isGood_8 : decode cX8_isGood 8 = .ok (.getfield 28, 3) := by decide +kernel
theorem dX8_isGood_11 : decode cX8_isGood 11 = .ok (.iload_n 1, 1) := by decide +kernel
theorem dX8_isGood_12 : decode cX8_isGood 12 = .ok (.aaload, 1) := by decide +kernel
theorem dX8_isGood_13 : decode cX8_isGood 13 = .ok (.goto 4, 3) := by decide +kernel
theorem dX8_isGood_16 : decode cX8_isGood 16 = .ok (.aconst_null, 1) := by decide +kernel
theorem dX8_isGood_17 : decode cX8_isGood 17 = .ok (.astore 5, 2) := by decide +kernel
theorem dX8_isGood_19 : decode cX8_isGood 19 = .ok (.aload 5, 2) := by decide +kernel
theorem dX8_isGood_21 : decode cX8_isGood 21 = .ok (.ifnull 22, 3) := by decide +kernel
theorem dX8_isGood_24 : decode cX8_isGood 24 = .ok (.aload 5, 2) := by decide +kernel
theorem dX8_isGood_26 : decode cX8_isGood 26 = .ok (.iload_n 1, 1) := by decide +kernel
theorem dX8_isGood_27 : decode cX8_isGood 27 = .ok (.invokestatic 80, 3) := by decide +kernel
theorem dX8_isGood_30 : decode cX8_isGood 30 = .ok (.ifCond .eq 13, 3) := by decide +kernel
theorem dX8_isGood_33 : decode cX8_isGood 33 = .ok (.aload 5, 2) := by decide +kernel
theorem dX8_isGood_35 : decode cX8_isGood 35 = .ok (.iload 4, 2) := by decide +kernel
theorem dX8_isGood_37 : decode cX8_isGood 37 = .ok (.invokestatic 84, 3) := by decide +kernel
theorem dX8_isGood_40 : decode cX8_isGood 40 = .ok (.ifCond .ne 5, 3) := by decide +kernel
theorem dX8_isGood_43 : decode cX8_isGood 43 = .ok (.iconst 0, 1) := by decide +kernel
theorem dX8_isGood_44 : decode cX8_isGood 44 = .ok (.ireturn, 1) := by decide +kernel
theorem dX8_isGood_45 : decode cX8_isGood 45 = .ok (.aload_n 2, 1) := by decide +kernel
theorem dX8_isGood_46 : decode cX8_isGood 46 = .ok (.aload 5, 2) := by decide +kernel
theorem dX8_isGood_48 : decode cX8_isGood 48 = .ok (.iconst 1, 1) := by decide +kernel
theorem dX8_isGood_49 : decode cX8_isGood 49 = .ok (.invokevirtual 48, 3) := by decide +kernel
theorem dX8_isGood_52 : decode cX8_isGood 52 = .ok (.invokevirtual 87, 3) := by decide +kernel
theorem dX8_isGood_55 : decode cX8_isGood 55 = .ok (.istore 6, 2) := by decide +kernel
theorem dX8_isGood_57 : decode cX8_isGood 57 = .ok (.iload 6, 2) := by decide +kernel
theorem dX8_isGood_59 : decode cX8_isGood 59 = .ok (.iconst (-1), 1) := by decide +kernel
theorem dX8_isGood_60 : decode cX8_isGood 60 = .ok (.if_icmp .ne 5, 3) := by decide +kernel
theorem dX8_isGood_63 : decode cX8_isGood 63 = .ok (.iconst 0, 1) := by decide +kernel
theorem dX8_isGood_64 : decode cX8_isGood 64 = .ok (.ireturn, 1) := by decide +kernel
theorem dX8_isGood_65 : decode cX8_isGood 65 = .ok (.aload_n 0, 1) := by decide +kernel
theorem dX8_isGood_66 : decode cX8_isGood 66 = .ok (.getfield 90, 3) := by decide +kernel
theorem dX8_isGood_69 : decode cX8_isGood 69 = .ok (.iload_n 1, 1) := by decide +kernel
theorem dX8_isGood_70 : decode cX8_isGood 70 = .ok (.iaload, 1) := by decide +kernel
theorem dX8_isGood_71 : decode cX8_isGood 71 = .ok (.ifCond .ne 30, 3) := by decide +kernel
theorem dX8_isGood_74 : decode cX8_isGood 74 = .ok (.aload_n 2, 1) := by decide +kernel
theorem dX8_isGood_75 : decode cX8_isGood 75 = .ok (.iload 6, 2) := by decide +kernel
theorem dX8_isGood_77 : decode cX8_isGood 77 = .ok (.aload_n 3, 1) := by decide +kernel
theorem dX8_isGood_78 : decode cX8_isGood 78 = .ok (.invokevirtual 94, 3) := by decide +kernel
theorem dX8_isGood_81 : decode cX8_isGood 81 = .ok (.aload_n 0, 1) := by decide +kernel
theorem dX8_isGood_82 : decode cX8_isGood 82 = .ok (.getfield 90, 3) := by decide +kernel
theorem dX8_isGood_85 : decode cX8_isGood 85 = .ok (.iload_n 1, 1) := by decide +kernel
theorem dX8_isGood_86 : decode cX8_isGood 86 = .ok (.aload 5, 2) := by decide +kernel
theorem dX8_isGood_88 : decode cX8_isGood 88 = .ok (.aload_n 3, 1) := by decide +kernel
theorem dX8_isGood_89 : decode cX8_isGood 89 = .ok (.invokestatic 98, 3) := by decide +kernel
theorem dX8_isGood_92 : decode cX8_isGood 92 = .ok (.ifCond .eq 7, 3) := by decide +kernel
theorem dX8_isGood_95 : decode cX8_isGood 95 = .ok (.iconst 1, 1) := by decide +kernel
theorem dX8_isGood_96 : decode cX8_isGood 96 = .ok (.goto 4, 3) := by decide +kernel
theorem dX8_isGood_99 : decode cX8_isGood 99 = .ok (.iconst 2, 1) := by decide +kernel
theorem dX8_isGood_100 : decode cX8_isGood 100 = .ok (.iastore, 1) := by decide +kernel
theorem dX8_isGood_101 : decode cX8_isGood 101 = .ok (.aload_n 0, 1) := by decide +kernel
theorem dX8_isGood_102 : decode cX8_isGood 102 = .ok (.getfield 90, 3) := by decide +kernel
theorem dX8_isGood_105 : decode cX8_isGood 105 = .ok (.iload_n 1, 1) := by decide +kernel
theorem dX8_isGood_106 : decode cX8_isGood 106 = .ok (.iaload, 1) := by decide +kernel
theorem dX8_isGood_107 : decode cX8_isGood 107 = .ok (.iconst 1, 1) := by decide +kernel
theorem dX8_isGood_108 : decode cX8_isGood 108 = .ok (.if_icmp .ne 7, 3) := by decide +kernel
theorem dX8_isGood_111 : decode cX8_isGood 111 = .ok (.iconst 1, 1) := by decide +kernel
theorem dX8_isGood_112 : decode cX8_isGood 112 = .ok (.goto 4, 3) := by decide +kernel
theorem dX8_isGood_115 : decode cX8_isGood 115 = .ok (.iconst 0, 1) := by decide +kernel
theorem dX8_isGood_116 : decode cX8_isGood 116 = .ok (.ireturn, 1) := by decide +kernel
theorem dX8_isFormed_0 : decode cX8_isFormed 0 = .ok (.iload_n 1, 1) := by decide +kernel
theorem dX8_isFormed_1 : decode cX8_isFormed 1 = .ok (.ifCond .ne 7, 3) := by decide +kernel
theorem dX8_isFormed_4 : decode cX8_isFormed 4 = .ok (.iconst 4, 1) := by decide +kernel
theorem dX8_isFormed_5 : decode cX8_isFormed 5 = .ok (.goto 4, 3) := by decide +kernel
theorem dX8_isFormed_8 : decode cX8_isFormed 8 = .ok (.iconst 2, 1) := by decide +kernel
theorem dX8_isFormed_9 : decode cX8_isFormed 9 = .ok (.istore_n 2, 1) := by decide +kernel
theorem dX8_isFormed_10 : decode cX8_isFormed 10 = .ok (.aload_n 0, 1) := by decide +kernel
theorem dX8_isFormed_11 : decode cX8_isFormed 11 = .ok (.getfield 102, 3) := by decide +kernel
theorem dX8_isFormed_14 : decode cX8_isFormed 14 = .ok (.bipush 21, 2) := by decide +kernel
theorem dX8_isFormed_16 : decode cX8_isFormed 16 = .ok (.iload_n 2, 1) := by decide +kernel
theorem dX8_isFormed_17 : decode cX8_isFormed 17 = .ok (.iadd, 1) := by decide +kernel
theorem dX8_isFormed_18 : decode cX8_isFormed 18 = .ok (.bipush 16, 2) := by decide +kernel
theorem dX8_isFormed_20 : decode cX8_isFormed 20 = .ok (.iadd, 1) := by decide +kernel
theorem dX8_isFormed_21 : decode cX8_isFormed 21 = .ok (.if_icmp .ne 14, 3) := by decide +kernel
theorem dX8_isFormed_24 : decode cX8_isFormed 24 = .ok (.aload_n 0, 1) := by decide +kernel
theorem dX8_isFormed_25 : decode cX8_isFormed 25 = .ok (.iconst 0, 1) := by decide +kernel
theorem dX8_isFormed_26 : decode cX8_isFormed 26 = .ok (.invokevirtual 60, 3) := by decide +kernel
theorem dX8_isFormed_29 : decode cX8_isFormed 29 = .ok (.iload_n 1, 1) := by decide +kernel
theorem dX8_isFormed_30 : decode cX8_isFormed 30 = .ok (.iconst 1, 1) := by decide +kernel
theorem dX8_isFormed_31 : decode cX8_isFormed 31 = .ok (.iadd, 1) := by decide +kernel
theorem dX8_isFormed_32 : decode cX8_isFormed 32 = .ok (.if_icmp .eq 5, 3) := by decide +kernel
theorem dX8_isFormed_35 : decode cX8_isFormed 35 = .ok (.iconst 0, 1) := by decide +kernel
theorem dX8_isFormed_36 : decode cX8_isFormed 36 = .ok (.ireturn, 1) := by decide +kernel
theorem dX8_isFormed_37 : decode cX8_isFormed 37 = .ok (.iload_n 1, 1) := by decide +kernel
theorem dX8_isFormed_38 : decode cX8_isFormed 38 = .ok (.ifCond .ne 27, 3) := by decide +kernel
theorem dX8_isFormed_41 : decode cX8_isFormed 41 = .ok (.aload_n 0, 1) := by decide +kernel
theorem dX8_isFormed_42 : decode cX8_isFormed 42 = .ok (.bipush 7, 2) := by decide +kernel
theorem dX8_isFormed_44 : decode cX8_isFormed 44 = .ok (.invokevirtual 48, 3) := by decide +kernel
theorem dX8_isFormed_47 : decode cX8_isFormed 47 = .ok (.ifCond .ne 16, 3) := by decide +kernel
theorem dX8_isFormed_50 : decode cX8_isFormed 50 = .ok (.aload_n 0, 1) := by decide +kernel
theorem dX8_isFormed_51 : decode cX8_isFormed 51 = .ok (.bipush 9, 2) := by decide +kernel
theorem dX8_isFormed_53 : decode cX8_isFormed 53 = .ok (.invokevirtual 38, 3) := by decide +kernel
theorem dX8_isFormed_56 : decode cX8_isFormed 56 = .ok (.ifCond .ne 7, 3) := by decide +kernel
theorem dX8_isFormed_59 : decode cX8_isFormed 59 = .ok (.iconst 1, 1) := by decide +kernel
theorem dX8_isFormed_60 : decode cX8_isFormed 60 = .ok (.goto 4, 3) := by decide +kernel
theorem dX8_isFormed_63 : decode cX8_isFormed 63 = .ok (.iconst 0, 1) := by decide +kernel
theorem dX8_isFormed_64 : decode cX8_isFormed 64 = .ok (.ireturn, 1) := by decide +kernel
theorem dX8_isFormed_65 : decode cX8_isFormed 65 = .ok (.iload_n 1, 1) := by decide +kernel
theorem dX8_isFormed_66 : decode cX8_isFormed 66 = .ok (.iconst 2, 1) := by decide +kernel
theorem dX8_isFormed_67 : decode cX8_isFormed 67 = .ok (.if_icmp .eq 23, 3) := by decide +kernel
theorem dX8_isFormed_70 : decode cX8_isFormed 70 = .ok (.aload_n 0, 1) := by decide +kernel
theorem dX8_isFormed_71 : decode cX8_isFormed 71 = .ok (.bipush 21, 2) := by decide +kernel
theorem dX8_isFormed_73 : decode cX8_isFormed 73 = .ok (.invokevirtual 60, 3) := by decide +kernel
theorem dX8_isFormed_76 : decode cX8_isFormed 76 = .ok (.iconst 3, 1) := by decide +kernel
theorem dX8_isFormed_77 : decode cX8_isFormed 77 = .ok (.if_icmp .gt 17, 3) := by decide +kernel
theorem dX8_isFormed_80 : decode cX8_isFormed 80 = .ok (.aload_n 0, 1) := by decide +kernel
theorem dX8_isFormed_81 : decode cX8_isFormed 81 = .ok (.bipush 22, 2) := by decide +kernel
theorem dX8_isFormed_83 : decode cX8_isFormed 83 = .ok (.invokevirtual 60, 3) := by decide +kernel
theorem dX8_isFormed_86 : decode cX8_isFormed 86 = .ok (.iconst 5, 1) := by decide +kernel
theorem dX8_isFormed_87 : decode cX8_isFormed 87 = .ok (.if_icmp .gt 7, 3) := by decide +kernel
theorem dX8_isFormed_90 : decode cX8_isFormed 90 = .ok (.iconst 1, 1) := by decide +kernel
theorem dX8_isFormed_91 : decode cX8_isFormed 91 = .ok (.goto 4, 3) := by decide +kernel
theorem dX8_isFormed_94 : decode cX8_isFormed 94 = .ok (.iconst 0, 1) := by decide +kernel
theorem dX8_isFormed_95 : decode cX8_isFormed 95 = .ok (.ireturn, 1) := by decide +kernel
theorem dX8_isInTime_0 : decode cX8_isInTime 0 = .ok (.iload_n 1, 1) := by decide +kernel
theorem dX8_isInTime_1 : decode cX8_isInTime 1 = .ok (.i2l, 1) := by decide +kernel
theorem dX8_isInTime_2 : decode cX8_isInTime 2 = .ok (.aload_n 0, 1) := by decide +kernel
theorem dX8_isInTime_3 : decode cX8_isInTime 3 = .ok (.bipush 13, 2) := by decide +kernel
theorem dX8_isInTime_5 : decode cX8_isInTime 5 = .ok (.invokevirtual 38, 3) := by decide +kernel
theorem dX8_isInTime_8 : decode cX8_isInTime 8 = .ok (.invokestatic 105, 3) := by decide +kernel
theorem dX8_isInTime_11 : decode cX8_isInTime 11 = .ok (.lcmp, 1) := by decide +kernel
theorem dX8_isInTime_12 : decode cX8_isInTime 12 = .ok (.ifCond .lt 22, 3) := by decide +kernel
theorem dX8_isInTime_15 : decode cX8_isInTime 15 = .ok (.iload_n 1, 1) := by decide +kernel
theorem dX8_isInTime_16 : decode cX8_isInTime 16 = .ok (.i2l, 1) := by decide +kernel
theorem dX8_isInTime_17 : decode cX8_isInTime 17 = .ok (.aload_n 0, 1) := by decide +kernel
theorem dX8_isInTime_18 : decode cX8_isInTime 18 = .ok (.bipush 17, 2) := by decide +kernel
theorem dX8_isInTime_20 : decode cX8_isInTime 20 = .ok (.invokevirtual 38, 3) := by decide +kernel
theorem dX8_isInTime_23 : decode cX8_isInTime 23 = .ok (.invokestatic 105, 3) := by decide +kernel
theorem dX8_isInTime_26 : decode cX8_isInTime 26 = .ok (.lcmp, 1) := by decide +kernel
theorem dX8_isInTime_27 : decode cX8_isInTime 27 = .ok (.ifCond .gt 7, 3) := by decide +kernel
theorem dX8_isInTime_30 : decode cX8_isInTime 30 = .ok (.iconst 1, 1) := by decide +kernel
theorem dX8_isInTime_31 : decode cX8_isInTime 31 = .ok (.goto 4, 3) := by decide +kernel
theorem dX8_isInTime_34 : decode cX8_isInTime 34 = .ok (.iconst 0, 1) := by decide +kernel
theorem dX8_isInTime_35 : decode cX8_isInTime 35 = .ok (.ireturn, 1) := by decide +kernel
theorem dX8_withoutSign_0 : decode cX8_withoutSign 0 = .ok (.iload_n 0, 1) := by decide +kernel
theorem dX8_withoutSign_1 : decode cX8_withoutSign 1 = .ok (.i2l, 1) := by decide +kernel
theorem dX8_withoutSign_2 : decode cX8_withoutSign 2 = .ok (.ldc2_w 109, 3) := by decide +kernel
theorem dX8_withoutSign_5 : decode cX8_withoutSign 5 = .ok (.land, 1) := by decide +kernel
theorem dX8_withoutSign_6 : decode cX8_withoutSign 6 = .ok (.lreturn, 1) := by decide +kernel
theorem dX8_isSealed_0 : decode cX8_isSealed 0 = .ok (.aload_n 0, 1) := by decide +kernel
theorem dX8_isSealed_1 : decode cX8_isSealed 1 = .ok (.getfield 102, 3) := by decide +kernel
theorem dX8_isSealed_4 : decode cX8_isSealed 4 = .ok (.bipush 16, 2) := by decide +kernel
theorem dX8_isSealed_6 : decode cX8_isSealed 6 = .ok (.isub, 1) := by decide +kernel
theorem dX8_isSealed_7 : decode cX8_isSealed 7 = .ok (.istore_n 2, 1) := by decide +kernel
theorem dX8_isSealed_8 : decode cX8_isSealed 8 = .ok (.aload_n 1, 1) := by decide +kernel
theorem dX8_isSealed_9 : decode cX8_isSealed 9 = .ok (.aload_n 0, 1) := by decide +kernel
theorem dX8_isSealed_10 : decode cX8_isSealed 10 = .ok (.iload_n 2, 1) := by decide +kernel
theorem dX8_isSealed_11 : decode cX8_isSealed 11 = .ok (.invokevirtual 111, 3) := by decide +kernel
theorem dX8_isSealed_14 : decode cX8_isSealed 14 = .ok (.iconst 0, 1) := by decide +kernel
theorem dX8_isSealed_15 : decode cX8_isSealed 15 = .ok (.istore_n 3, 1) := by decide +kernel
theorem dX8_isSealed_16 : decode cX8_isSealed 16 = .ok (.iload_n 3, 1) := by decide +kernel
theorem dX8_isSealed_17 : decode cX8_isSealed 17 = .ok (.bipush 16, 2) := by decide +kernel
theorem dX8_isSealed_19 : decode cX8_isSealed 19 = .ok (.if_icmp .ge 26, 3) := by decide +kernel
theorem dX8_isSealed_22 : decode cX8_isSealed 22 = .ok (.aload_n 0, 1) := by decide +kernel
theorem dX8_isSealed_23 : decode cX8_isSealed 23 = .ok (.iload_n 2, 1) := by decide +kernel
theorem dX8_isSealed_24 : decode cX8_isSealed 24 = .ok (.iload_n 3, 1) := by decide +kernel
theorem dX8_isSealed_25 : decode cX8_isSealed 25 = .ok (.iadd, 1) := by decide +kernel
theorem dX8_isSealed_26 : decode cX8_isSealed 26 = .ok (.invokevirtual 60, 3) := by decide +kernel
theorem dX8_isSealed_29 : decode cX8_isSealed 29 = .ok (.aload_n 1, 1) := by decide +kernel
theorem dX8_isSealed_30 : decode cX8_isSealed 30 = .ok (.iload_n 3, 1) := by decide +kernel
theorem dX8_isSealed_31 : decode cX8_isSealed 31 = .ok (.invokevirtual 117, 3) := by decide +kernel
theorem dX8_isSealed_34 : decode cX8_isSealed 34 = .ok (.if_icmp .eq 5, 3) := by decide +kernel
theorem dX8_isSealed_37 : decode cX8_isSealed 37 = .ok (.iconst 0, 1) := by decide +kernel
theorem dX8_isSealed_38 : decode cX8_isSealed 38 = .ok (.ireturn, 1) := by decide +kernel
theorem dX8_isSealed_39 : decode cX8_isSealed 39 = .ok (.iinc 3 1, 3) := by decide +kernel
theorem dX8_isSealed_42 : decode cX8_isSealed 42 = .ok (.goto (-26), 3) := by decide +kernel
theorem dX8_isSealed_45 : decode cX8_isSealed 45 = .ok (.iconst 1, 1) := by decide +kernel
theorem dX8_isSealed_46 : decode cX8_isSealed 46 = .ok (.ireturn, 1) := by decide +kernel
theorem dX9_init_0 : decode cX9_init 0 = .ok (.aload_n 0, 1) := by decide +kernel
theorem dX9_init_1 : decode cX9_init 1 = .ok (.invokespecial 1, 3) := by decide +kernel
theorem dX9_init_4 : decode cX9_init 4 = .ok (.aload_n 0, 1) := by decide +kernel
theorem dX9_init_5 : decode cX9_init 5 = .ok (.new 7, 3) := by decide +kernel
theorem dX9_init_8 : decode cX9_init 8 = .ok (.dup, 1) := by decide +kernel
theorem dX9_init_9 : decode cX9_init 9 = .ok (.sipush 400, 3) := by decide +kernel
theorem dX9_init_12 : decode cX9_init 12 = .ok (.invokespecial 11, 3) := by decide +kernel
theorem dX9_init_15 : decode cX9_init 15 = .ok (.putfield 14, 3) := by decide +kernel
theorem dX9_init_18 : decode cX9_init 18 = .ok (.aload_n 0, 1) := by decide +kernel
theorem dX9_init_19 : decode cX9_init 19 = .ok (.new 7, 3) := by decide +kernel
theorem dX9_init_22 : decode cX9_init 22 = .ok (.dup, 1) := by decide +kernel
theorem dX9_init_23 : decode cX9_init 23 = .ok (.sipush 400, 3) := by decide +kernel
theorem dX9_init_26 : decode cX9_init 26 = .ok (.invokespecial 11, 3) := by decide +kernel
theorem dX9_init_29 : decode cX9_init 29 = .ok (.putfield 18, 3) := by decide +kernel
theorem dX9_init_32 : decode cX9_init 32 = .ok (.aload_n 0, 1) := by decide +kernel
theorem dX9_init_33 : decode cX9_init 33 = .ok (.bipush 16, 2) := by decide +kernel
theorem dX9_init_35 : decode cX9_init 35 = .ok (.anewarray 21, 3) := by decide +kernel
theorem dX9_init_38 : decode cX9_init 38 = .ok (.putfield 23, 3) := by decide +kernel
theorem dX9_init_41 : decode cX9_init 41 = .ok (.aload_n 0, 1) := by decide +kernel
theorem dX9_init_42 : decode cX9_init 42 = .ok (.iconst (-1), 1) := by decide +kernel
theorem dX9_init_43 : decode cX9_init 43 = .ok (.putfield 27, 3) := by decide +kernel
theorem dX9_init_46 : decode cX9_init 46 = .ok (.aload_n 0, 1) := by decide +kernel
theorem dX9_init_47 : decode cX9_init 47 = .ok (.iconst (-1), 1) := by decide +kernel
theorem dX9_init_48 : decode cX9_init 48 = .ok (.putfield 31, 3) := by decide +kernel
theorem dX9_init_51 : decode cX9_init 51 = .ok (.aload_n 0, 1) := by decide +kernel
theorem dX9_init_52 : decode cX9_init 52 = .ok (.iconst (-1), 1) := by decide +kernel
theorem dX9_init_53 : decode cX9_init 53 = .ok (.putfield 34, 3) := by decide +kernel
theorem dX9_init_56 : decode cX9_init 56 = .ok (.aload_n 0, 1) := by decide +kernel
theorem dX9_init_57 : decode cX9_init 57 = .ok (.iconst 1, 1) := by decide +kernel
theorem dX9_init_58 : decode cX9_init 58 = .ok (.putfield 37, 3) := by decide +kernel
theorem dX9_init_61 : decode cX9_init 61 = .ok (.aload_n 0, 1) := by decide +kernel
theorem dX9_init_62 : decode cX9_init 62 = .ok (.bipush 9, 2) := by decide +kernel
theorem dX9_init_64 : decode cX9_init 64 = .ok (.newarray .int, 2) := by decide +kernel
theorem dX9_init_66 : decode cX9_init 66 = .ok (.putfield 40, 3) := by decide +kernel
theorem dX9_init_69 : decode cX9_init 69 = .ok (.aload_n 0, 1) := by decide +kernel
theorem dX9_init_70 : decode cX9_init 70 = .ok (.new 44, 3) := by decide +kernel
theorem dX9_init_73 : decode cX9_init 73 = .ok (.dup, 1) := by decide +kernel
theorem dX9_init_74 : decode cX9_init 74 = .ok (.invokespecial 46, 3) := by decide +kernel
theorem dX9_init_77 : decode cX9_init 77 = .ok (.putfield 47, 3) := by decide +kernel
theorem dX9_init_80 : decode cX9_init 80 = .ok (.aload_n 0, 1) := by decide +kernel
theorem dX9_init_81 : decode cX9_init 81 = .ok (.new 51, 3) := by decide +kernel
theorem dX9_init_84 : decode cX9_init 84 = .ok (.dup, 1) := by decide +kernel
theorem dX9_init_85 : decode cX9_init 85 = .ok (.invokespecial 53, 3) := by decide +kernel
theorem dX9_init_88 : decode cX9_init 88 = .ok (.putfield 54, 3) := by decide +kernel
theorem dX9_init_91 : decode cX9_init 91 = .ok (.aload_n 0, 1) := by decide +kernel
theorem dX9_init_92 : decode cX9_init 92 = .ok (.new 58, 3) := by decide +kernel
theorem dX9_init_95 : decode cX9_init 95 = .ok (.dup, 1) := by decide +kernel
theorem dX9_init_96 : decode cX9_init 96 = .ok (.invokespecial 60, 3) := by decide +kernel
theorem dX9_init_99 : decode cX9_init 99 = .ok (.putfield 61, 3) := by decide +kernel
theorem dX9_init_102 : decode cX9_init 102 = .ok (.aload_n 0, 1) := by decide +kernel
theorem dX9_init_103 : decode cX9_init 103 = .ok (.new 65, 3) := by decide +kernel
theorem dX9_init_106 : decode cX9_init 106 = .ok (.dup, 1) := by decide +kernel
theorem dX9_init_107 : decode cX9_init 107 = .ok (.invokespecial 67, 3) := by decide +kernel
theorem dX9_init_110 : decode cX9_init 110 = .ok (.putfield 68, 3) := by decide +kernel
theorem dX9_init_113 : decode cX9_init 113 = .ok (.aload_n 0, 1) := by decide +kernel
theorem dX9_init_114 : decode cX9_init 114 = .ok (.new 72, 3) := by decide +kernel
theorem dX9_init_117 : decode cX9_init 117 = .ok (.dup, 1) := by decide +kernel
theorem dX9_init_118 : decode cX9_init 118 = .ok (.invokespecial 74, 3) := by decide +kernel
theorem dX9_init_121 : decode cX9_init 121 = .ok (.putfield 75, 3) := by decide +kernel
theorem dX9_init_124 : decode cX9_init 124 = .ok (.aload_n 0, 1) := by decide +kernel
theorem dX9_init_125 : decode cX9_init 125 = .ok (.new 79, 3) := by decide +kernel
theorem dX9_init_128 : decode cX9_init 128 = .ok (.dup, 1) := by decide +kernel
theorem dX9_init_129 : decode cX9_init 129 = .ok (.invokespecial 81, 3) := by decide +kernel
theorem dX9_init_132 : decode cX9_init 132 = .ok (.putfield 82, 3) := by decide +kernel
theorem dX9_init_135 : decode cX9_init 135 = .ok (.iconst 0, 1) := by decide +kernel
theorem dX9_init_136 : decode cX9_init 136 = .ok (.istore_n 1, 1) := by decide +kernel
theorem dX9_init_137 : decode cX9_init 137 = .ok (.iload_n 1, 1) := by decide +kernel
theorem dX9_init_138 : decode cX9_init 138 = .ok (.bipush 16, 2) := by decide +kernel
theorem dX9_init_140 : decode cX9_init 140 = .ok (.if_icmp .ge 22, 3) := by decide +kernel
theorem dX9_init_143 : decode cX9_init 143 = .ok (.aload_n 0, 1) := by decide +kernel
theorem dX9_init_144 : decode cX9_init 144 = .ok (.getfield 23, 3) := by decide +kernel
theorem dX9_init_147 : decode cX9_init 147 = .ok (.iload_n 1, 1) := by decide +kernel
theorem dX9_init_148 : decode cX9_init 148 = .ok (.new 21, 3) := by decide +kernel
theorem dX9_init_151 : decode cX9_init 151 = .ok (.dup, 1) := by decide +kernel
theorem dX9_init_152 : decode cX9_init 152 = .ok (.invokespecial 86, 3) := by decide +kernel
theorem dX9_init_155 : decode cX9_init 155 = .ok (.aastore, 1) := by decide +kernel
theorem dX9_init_156 : decode cX9_init 156 = .ok (.iinc 1 1, 3) := by decide +kernel
theorem dX9_init_159 : decode cX9_init 159 = .ok (.goto (-22), 3) := by decide +kernel
theorem dX9_init_162 : decode cX9_init 162 = .ok (.getstatic 87, 3) := by decide +kernel
theorem dX9_init_165 : decode cX9_init 165 = .ok (.iconst 0, 1) := by decide +kernel
theorem dX9_init_166 : decode cX9_init 166 = .ok (.aload_n 0, 1) := by decide +kernel
theorem dX9_init_167 : decode cX9_init 167 = .ok (.getfield 40, 3) := by decide +kernel
theorem dX9_init_170 : decode cX9_init 170 = .ok (.iconst 0, 1) := by decide +kernel
theorem dX9_init_171 : decode cX9_init 171 = .ok (.bipush 9, 2) := by decide +kernel
theorem dX9_init_173 : decode cX9_init 173 = .ok (.invokestatic 90, 3) := by decide +kernel
theorem dX9_init_176 : decode cX9_init 176 = .ok (.return_, 1) := by decide +kernel
theorem dX9_feed_0 : decode cX9_feed 0 = .ok (.aload_n 0, 1) := by decide +kernel
theorem dX9_feed_1 : decode cX9_feed 1 = .ok (.getfield 14, 3) := by decide +kernel
theorem dX9_feed_4 : decode cX9_feed 4 = .ok (.bipush 20, 2) := by decide +kernel
theorem dX9_feed_6 : decode cX9_feed 6 = .ok (.invokevirtual 96, 3) := by decide +kernel
theorem dX9_feed_9 : decode cX9_feed 9 = .ok (.ifCond .ne 5, 3) := by decide +kernel
theorem dX9_feed_12 : decode cX9_feed 12 = .ok (.iconst (-1), 1) := by decide +kernel
theorem dX9_feed_13 : decode cX9_feed 13 = .ok (.ireturn, 1) := by decide +kernel
theorem dX9_feed_14 : decode cX9_feed 14 = .ok (.aload_n 0, 1) := by decide +kernel
theorem dX9_feed_15 : decode cX9_feed 15 = .ok (.getfield 14, 3) := by decide +kernel
theorem dX9_feed_18 : decode cX9_feed 18 = .ok (.iload_n 1, 1) := by decide +kernel
theorem dX9_feed_19 : decode cX9_feed 19 = .ok (.invokevirtual 100, 3) := by decide +kernel
theorem dX9_feed_22 : decode cX9_feed 22 = .ok (.aload_n 0, 1) := by decide +kernel
theorem dX9_feed_23 : decode cX9_feed 23 = .ok (.getfield 14, 3) := by decide +kernel
theorem dX9_feed_26 : decode cX9_feed 26 = .ok (.iload_n 2, 1) := by decide +kernel
theorem dX9_feed_27 : decode cX9_feed 27 = .ok (.invokevirtual 100, 3) := by decide +kernel
theorem dX9_feed_30 : decode cX9_feed 30 = .ok (.aload_n 0, 1) := by decide +kernel
theorem dX9_feed_31 : decode cX9_feed 31 = .ok (.getfield 14, 3) := by decide +kernel
theorem dX9_feed_34 : decode cX9_feed 34 = .ok (.iload_n 3, 1) := by decide +kernel
theorem dX9_feed_35 : decode cX9_feed 35 = .ok (.invokevirtual 100, 3) := by decide +kernel
theorem dX9_feed_38 : decode cX9_feed 38 = .ok (.aload_n 0, 1) := by decide +kernel
theorem dX9_feed_39 : decode cX9_feed 39 = .ok (.getfield 14, 3) := by decide +kernel
theorem dX9_feed_42 : decode cX9_feed 42 = .ok (.iload 4, 2) := by decide +kernel
theorem dX9_feed_44 : decode cX9_feed 44 = .ok (.invokevirtual 100, 3) := by decide +kernel
theorem dX9_feed_47 : decode cX9_feed 47 = .ok (.aload_n 0, 1) := by decide +kernel
theorem dX9_feed_48 : decode cX9_feed 48 = .ok (.getfield 14, 3) := by decide +kernel
theorem dX9_feed_51 : decode cX9_feed 51 = .ok (.iload 5, 2) := by decide +kernel
theorem dX9_feed_53 : decode cX9_feed 53 = .ok (.invokevirtual 100, 3) := by decide +kernel
theorem dX9_feed_56 : decode cX9_feed 56 = .ok (.aload_n 0, 1) := by decide +kernel
theorem dX9_feed_57 : decode cX9_feed 57 = .ok (.getfield 14, 3) := by decide +kernel
theorem dX9_feed_60 : decode cX9_feed 60 = .ok (.getfield 103, 3) := by decide +kernel
theorem dX9_feed_63 : decode cX9_feed 63 = .ok (.ireturn, 1) := by decide +kernel
theorem dX9_cut_0 : decode cX9_cut 0 = .ok (.iload_n 1, 1) := by decide +kernel
theorem dX9_cut_1 : decode cX9_cut 1 = .ok (.ifCond .lt 14, 3) := by decide +kernel
theorem dX9_cut_4 : decode cX9_cut 4 = .ok (.iload_n 1, 1) := by decide +kernel
theorem dX9_cut_5 : decode cX9_cut 5 = .ok (.aload_n 0, 1) := by decide +kernel
theorem dX9_cut_6 : decode cX9_cut 6 = .ok (.getfield 14, 3) := by decide +kernel
theorem dX9_cut_9 : decode cX9_cut 9 = .ok (.getfield 103, 3) := by decide +kernel
theorem dX9_cut_12 : decode cX9_cut 12 = .ok (.if_icmp .le 5, 3) := by decide +kernel
theorem dX9_cut_15 : decode cX9_cut 15 = .ok (.iconst (-1), 1) := by decide +kernel
theorem dX9_cut_16 : decode cX9_cut 16 = .ok (.ireturn, 1) := by decide +kernel
theorem dX9_cut_17 : decode cX9_cut 17 = .ok (.aload_n 0, 1) := by decide +kernel
theorem dX9_cut_18 : decode cX9_cut 18 = .ok (.getfield 14, 3) := by decide +kernel
theorem dX9_cut_21 : decode cX9_cut 21 = .ok (.getfield 103, 3) := by decide +kernel
theorem dX9_cut_24 : decode cX9_cut 24 = .ok (.iload_n 1, 1) := by decide +kernel
theorem dX9_cut_25 : decode cX9_cut 25 = .ok (.isub, 1) := by decide +kernel
theorem dX9_cut_26 : decode cX9_cut 26 = .ok (.istore_n 2, 1) := by decide +kernel
theorem dX9_cut_27 : decode cX9_cut 27 = .ok (.aload_n 0, 1) := by decide +kernel
theorem dX9_cut_28 : decode cX9_cut 28 = .ok (.getfield 14, 3) := by decide +kernel
theorem dX9_cut_31 : decode cX9_cut 31 = .ok (.iload_n 1, 1) := by decide +kernel
theorem dX9_cut_32 : decode cX9_cut 32 = .ok (.putfield 103, 3) := by decide +kernel
theorem dX9_cut_35 : decode cX9_cut 35 = .ok (.iload_n 2, 1) := by decide +kernel
theorem dX9_cut_36 : decode cX9_cut 36 = .ok (.ireturn, 1) := by decide +kernel
theorem dX9_seal_0 : decode cX9_seal 0 = .ok (.aload_n 0, 1) := by decide +kernel
theorem dX9_seal_1 : decode cX9_seal 1 = .ok (.getfield 14, 3) := by decide +kernel
theorem dX9_seal_4 : decode cX9_seal 4 = .ok (.bipush 16, 2) := by decide +kernel
theorem dX9_seal_6 : decode cX9_seal 6 = .ok (.invokevirtual 96, 3) := by decide +kernel
theorem dX9_seal_9 : decode cX9_seal 9 = .ok (.ifCond .ne 5, 3) := by decide +kernel
theorem dX9_seal_12 : decode cX9_seal 12 = .ok (.iconst (-1), 1) := by decide +kernel
theorem dX9_seal_13 : decode cX9_seal 13 = .ok (.ireturn, 1) := by decide +kernel
theorem dX9_seal_14 : decode cX9_seal 14 = .ok (.aload_n 0, 1) := by decide +kernel
theorem dX9_seal_15 : decode cX9_seal 15 = .ok (.getfield 47, 3) := by decide +kernel
theorem dX9_seal_18 : decode cX9_seal 18 = .ok (.iload_n 1, 1) := by decide +kernel
theorem dX9_seal_19 : decode cX9_seal 19 = .ok (.iload_n 2, 1) := by decide +kernel
theorem dX9_seal_20 : decode cX9_seal 20 = .ok (.iload_n 3, 1) := by decide +kernel
theorem dX9_seal_21 : decode cX9_seal 21 = .ok (.iload 4, 2) := by decide +kernel
theorem dX9_seal_23 : decode cX9_seal 23 = .ok (.invokevirtual 106, 3) := by decide +kernel
theorem dX9_seal_26 : decode cX9_seal 26 = .ok (.aload_n 0, 1) := by decide +kernel
theorem dX9_seal_27 : decode cX9_seal 27 = .ok (.getfield 47, 3) := by decide +kernel
theorem dX9_seal_30 : decode cX9_seal 30 = .ok (.aload_n 0, 1) := by decide +kernel
theorem dX9_seal_31 : decode cX9_seal 31 = .ok (.getfield 14, 3) := by decide +kernel
theorem dX9_seal_34 : decode cX9_seal 34 = .ok (.aload_n 0, 1) := by decide +kernel
theorem dX9_seal_35 : decode cX9_seal 35 = .ok (.getfield 14, 3) := by decide +kernel
theorem dX9_seal_38 : decode cX9_seal 38 = .ok (.getfield 103, 3) := by decide +kernel
theorem dX9_seal_41 : decode cX9_seal 41 = .ok (.invokevirtual 110, 3) := by decide +kernel
theorem dX9_seal_44 : decode cX9_seal 44 = .ok (.aload_n 0, 1) := by decide +kernel
theorem dX9_seal_45 : decode cX9_seal 45 = .ok (.getfield 47, 3) := by decide +kernel
theorem dX9_seal_48 : decode cX9_seal 48 = .ok (.aload_n 0, 1) := by decide +kernel
theorem dX9_seal_49 : decode cX9_seal 49 = .ok (.getfield 14, 3) := by decide +kernel
theorem dX9_seal_52 : decode cX9_seal 52 = .ok (.invokevirtual 114, 3) := by decide +kernel
theorem dX9_seal_55 : decode cX9_seal 55 = .ok (.aload_n 0, 1) := by decide +kernel
theorem dX9_seal_56 : decode cX9_seal 56 = .ok (.getfield 14, 3) := by decide +kernel
theorem dX9_seal_59 : decode cX9_seal 59 = .ok (.getfield 103, 3) := by decide +kernel
theorem dX9_seal_62 : decode cX9_seal 62 = .ok (.ireturn, 1) := by decide +kernel
theorem dX9_card_0 : decode cX9_card 0 = .ok (.iload_n 1, 1) := by decide +kernel
theorem dX9_card_1 : decode cX9_card 1 = .ok (.invokestatic 118, 3) := by decide +kernel
theorem dX9_card_4 : decode cX9_card 4 = .ok (.ifCond .eq 26, 3) := by decide +kernel
theorem dX9_card_7 : decode cX9_card 7 = .ok (.iload_n 2, 1) := by decide +kernel
theorem dX9_card_8 : decode cX9_card 8 = .ok (.invokestatic 121, 3) := by decide +kernel
theorem dX9_card_11 : decode cX9_card 11 = .ok (.ifCond .eq 19, 3) := by decide +kernel
theorem dX9_card_14 : decode cX9_card 14 = .ok (.aload_n 0, 1) := by decide +kernel
theorem dX9_card_15 : decode cX9_card 15 = .ok (.getfield 14, 3) := by decide +kernel
theorem dX9_card_18 : decode cX9_card 18 = .ok (.getfield 103, 3) := by decide +kernel
theorem dX9_card_21 : decode cX9_card 21 = .ok (.bipush 48, 2) := by decide +kernel
theorem dX9_card_23 : decode cX9_card 23 = .ok (.if_icmp .gt 7, 3) := by decide +kernel
theorem dX9_card_26 : decode cX9_card 26 = .ok (.iconst 1, 1) := by decide +kernel
theorem dX9_card_27 : decode cX9_card 27 = .ok (.goto 4, 3) := by decide +kernel
theorem dX9_card_30 : decode cX9_card 30 = .ok (.iconst 0, 1) := by decide +kernel
theorem dX9_card_31 : decode cX9_card 31 = .ok (.istore_n 3, 1) := by decide +kernel
theorem dX9_card_32 : decode cX9_card 32 = .ok (.iload_n 3, 1) := by decide +kernel
theorem dX9_card_33 : decode cX9_card 33 = .ok (.ifCond .eq 17, 3) := by decide +kernel
theorem dX9_card_36 : decode cX9_card 36 = .ok (.aload_n 0, 1) := by decide +kernel
theorem dX9_card_37 : decode cX9_card 37 = .ok (.getfield 23, 3) := by decide +kernel
theorem dX9_card_40 : decode cX9_card 40 = .ok (.iload_n 1, 1) := by decide +kernel
theorem dX9_card_41 : decode cX9_card 41 = .ok (.aaload, 1) := by decide +kernel
theorem dX9_card_42 : decode cX9_card 42 = .ok (.iload_n 2, 1) := by decide +kernel
theorem dX9_card_43 : decode cX9_card 43 = .ok (.aload_n 0, 1) := by decide +kernel
theorem dX9_card_44 : decode cX9_card 44 = .ok (.getfield 14, 3) := by decide +kernel
theorem dX9_card_47 : decode cX9_card 47 = .ok (.invokevirtual 124, 3) := by decide +kernel
theorem dX9_card_50 : decode cX9_card 50 = .ok (.aload_n 0, 1) := by decide +kernel
theorem dX9_card_51 : decode cX9_card 51 = .ok (.getfield 14, 3) := by decide +kernel
theorem dX9_card_54 : decode cX9_card 54 = .ok (.iconst 0, 1) := by decide +kernel
theorem dX9_card_55 : decode cX9_card 55 = .ok (.putfield 103, 3) := by decide +kernel
theorem dX9_card_58 : decode cX9_card 58 = .ok (.iload_n 3, 1) := by decide +kernel
theorem dX9_card_59 : decode cX9_card 59 = .ok (.ireturn, 1) := by decide +kernel
theorem dX9_writable_0 : decode cX9_writable 0 = .ok (.iload_n 1, 1) := by decide +kernel
theorem dX9_writable_1 : decode cX9_writable 1 = .ok (.invokestatic 118, 3) := by decide +kernel
theorem dX9_writable_4 : decode cX9_writable 4 = .ok (.ifCond .ne 5, 3) := by decide +kernel
theorem dX9_writable_7 : decode cX9_writable 7 = .ok (.iconst 0, 1) := by decide +kernel
theorem dX9_writable_8 : decode cX9_writable 8 = .ok (.ireturn, 1) := by decide +kernel
theorem dX9_writable_9 : decode cX9_writable 9 = .ok (.aload_n 0, 1) := by decide +kernel
theorem dX9_writable_10 : decode cX9_writable 10 = .ok (.getfield 23, 3) := by decide +kernel
theorem dX9_writable_13 : decode cX9_writable 13 = .ok (.iload_n 1, 1) := by decide +kernel
theorem dX9_writable_14 : decode cX9_writable 14 = .ok (.aaload, 1) := by decide +kernel
theorem dX9_writable_15 : decode cX9_writable 15 = .ok (.iload_n 2, 1) := by decide +kernel
theorem dX9_writable_16 : decode cX9_writable 16 = .ok (.putfield 128, 3) := by decide +kernel
theorem dX9_writable_19 : decode cX9_writable 19 = .ok (.iconst 1, 1) := by decide +kernel
theorem dX9_writable_20 : decode cX9_writable 20 = .ok (.ireturn, 1) := by decide +kernel
theorem dX9_put_0 : decode cX9_put 0 = .ok (.iload_n 2, 1) := by decide +kernel
theorem dX9_put_1 : decode cX9_put 1 = .ok (.iconst (-1), 1) := by decide +kernel
theorem dX9_put_2 : decode cX9_put 2 = .ok (.if_icmp .eq 12, 3) := by decide +kernel
theorem dX9_put_5 : decode cX9_put 5 = .ok (.iload_n 2, 1) := by decide +kernel
theorem dX9_put_6 : decode cX9_put 6 = .ok (.invokestatic 118, 3) := by decide +kernel
theorem dX9_put_9 : decode cX9_put 9 = .ok (.ifCond .ne 5, 3) := by decide +kernel
theorem dX9_put_12 : decode cX9_put 12 = .ok (.iconst 0, 1) := by decide +kernel
theorem dX9_put_13 : decode cX9_put 13 = .ok (.ireturn, 1) := by decide +kernel
theorem dX9_put_14 : decode cX9_put 14 = .ok (.iload_n 1, 1) := by decide +kernel
theorem dX9_put_15 : decode cX9_put 15 = .ok (.ifCond .ne 23, 3) := by decide +kernel
theorem dX9_put_18 : decode cX9_put 18 = .ok (.iload_n 2, 1) := by decide +kernel
theorem dX9_put_19 : decode cX9_put 19 = .ok (.iconst (-1), 1) := by decide +kernel
theorem dX9_put_20 : decode cX9_put 20 = .ok (.if_icmp .eq 11, 3) := by decide +kernel
theorem dX9_put_23 : decode cX9_put 23 = .ok (.iload_n 2, 1) := by decide +kernel
theorem dX9_put_24 : decode cX9_put 24 = .ok (.aload_n 0, 1) := by decide +kernel
theorem dX9_put_25 : decode cX9_put 25 = .ok (.getfield 31, 3) := by decide +kernel
theorem dX9_put_28 : decode cX9_put 28 = .ok (.if_icmp .eq 10, 3) := by decide +kernel
theorem dX9_put_31 : decode cX9_put 31 = .ok (.aload_n 0, 1) := by decide +kernel
theorem dX9_put_32 : decode cX9_put 32 = .ok (.iload_n 2, 1) := by decide +kernel
theorem dX9_put_33 : decode cX9_put 33 = .ok (.putfield 27, 3) := by decide +kernel
theorem dX9_put_36 : decode cX9_put 36 = .ok (.iconst 1, 1) := by decide +kernel
theorem dX9_put_37 : decode cX9_put 37 = .ok (.ireturn, 1) := by decide +kernel
theorem dX9_put_38 : decode cX9_put 38 = .ok (.iload_n 1, 1) := by decide +kernel
theorem dX9_put_39 : decode cX9_put 39 = .ok (.iconst 1, 1) := by decide +kernel
theorem dX9_put_40 : decode cX9_put 40 = .ok (.if_icmp .ne 23, 3) := by decide +kernel
theorem dX9_put_43 : decode cX9_put 43 = .ok (.iload_n 2, 1) := by decide +kernel
theorem dX9_put_44 : decode cX9_put 44 = .ok (.iconst (-1), 1) := by decide +kernel
theorem dX9_put_45 : decode cX9_put 45 = .ok (.if_icmp .eq 11, 3) := by decide +kernel
theorem dX9_put_48 : decode cX9_put 48 = .ok (.iload_n 2, 1) := by decide +kernel
theorem dX9_put_49 : decode cX9_put 49 = .ok (.aload_n 0, 1) := by decide +kernel
theorem dX9_put_50 : decode cX9_put 50 = .ok (.getfield 27, 3) := by decide +kernel
theorem dX9_put_53 : decode cX9_put 53 = .ok (.if_icmp .eq 10, 3) := by decide +kernel
theorem dX9_put_56 : decode cX9_put 56 = .ok (.aload_n 0, 1) := by decide +kernel
theorem dX9_put_57 : decode cX9_put 57 = .ok (.iload_n 2, 1) := by decide +kernel
theorem dX9_put_58 : decode cX9_put 58 = .ok (.putfield 31, 3) := by decide +kernel
theorem dX9_put_61 : decode cX9_put 61 = .ok (.iconst 1, 1) := by decide +kernel
theorem dX9_put_62 : decode cX9_put 62 = .ok (.ireturn, 1) := by decide +kernel
theorem dX9_put_63 : decode cX9_put 63 = .ok (.iconst 0, 1) := by decide +kernel
theorem dX9_put_64 : decode cX9_put 64 = .ok (.ireturn, 1) := by decide +kernel
theorem dX9_finger_0 : decode cX9_finger 0 = .ok (.iload_n 1, 1) := by decide +kernel
theorem dX9_finger_1 : decode cX9_finger 1 = .ok (.iconst (-1), 1) := by decide +kernel
theorem dX9_finger_2 : decode cX9_finger 2 = .ok (.if_icmp .lt 9, 3) := by decide +kernel
theorem dX9_finger_5 : decode cX9_finger 5 = .ok (.iload_n 1, 1) := by decide +kernel
theorem dX9_finger_6 : decode cX9_finger 6 = .ok (.ldc 132, 2) := by decide +kernel
theorem dX9_finger_8 : decode cX9_finger 8 = .ok (.if_icmp .le 5, 3) := by decide +kernel
theorem dX9_finger_11 : decode cX9_finger 11 = .ok (.iconst 0, 1) := by decide +kernel
theorem dX9_finger_12 : decode cX9_finger 12 = .ok (.ireturn, 1) := by decide +kernel
theorem dX9_finger_13 : decode cX9_finger 13 = .ok (.aload_n 0, 1) := by decide +kernel
theorem dX9_finger_14 : decode cX9_finger 14 = .ok (.iload_n 1, 1) := by decide +kernel
theorem dX9_finger_15 : decode cX9_finger 15 = .ok (.putfield 34, 3) := by decide +kernel
theorem dX9_finger_18 : decode cX9_finger 18 = .ok (.iconst 1, 1) := by decide +kernel
theorem dX9_finger_19 : decode cX9_finger 19 = .ok (.ireturn, 1) := by decide +kernel
theorem dX9_door_0 : decode cX9_door 0 = .ok (.aload_n 0, 1) := by decide +kernel
theorem dX9_door_1 : decode cX9_door 1 = .ok (.iload_n 1, 1) := by decide +kernel
theorem dX9_door_2 : decode cX9_door 2 = .ok (.putfield 133, 3) := by decide +kernel
theorem dX9_door_5 : decode cX9_door 5 = .ok (.return_, 1) := by decide +kernel
theorem dX9_disk_0 : decode cX9_disk 0 = .ok (.aload_n 0, 1) := by decide +kernel
theorem dX9_disk_1 : decode cX9_disk 1 = .ok (.getfield 18, 3) := by decide +kernel
theorem dX9_disk_4 : decode cX9_disk 4 = .ok (.aload_n 0, 1) := by decide +kernel
theorem dX9_disk_5 : decode cX9_disk 5 = .ok (.getfield 14, 3) := by decide +kernel
theorem dX9_disk_8 : decode cX9_disk 8 = .ok (.invokevirtual 136, 3) := by decide +kernel
theorem dX9_disk_11 : decode cX9_disk 11 = .ok (.aload_n 0, 1) := by decide +kernel
theorem dX9_disk_12 : decode cX9_disk 12 = .ok (.iconst 1, 1) := by decide +kernel
theorem dX9_disk_13 : decode cX9_disk 13 = .ok (.putfield 139, 3) := by decide +kernel
theorem dX9_disk_16 : decode cX9_disk 16 = .ok (.aload_n 0, 1) := by decide +kernel
theorem dX9_disk_17 : decode cX9_disk 17 = .ok (.getfield 14, 3) := by decide +kernel
theorem dX9_disk_20 : decode cX9_disk 20 = .ok (.iconst 0, 1) := by decide +kernel
theorem dX9_disk_21 : decode cX9_disk 21 = .ok (.putfield 103, 3) := by decide +kernel
theorem dX9_disk_24 : decode cX9_disk 24 = .ok (.aload_n 0, 1) := by decide +kernel
theorem dX9_disk_25 : decode cX9_disk 25 = .ok (.getfield 18, 3) := by decide +kernel
theorem dX9_disk_28 : decode cX9_disk 28 = .ok (.getfield 103, 3) := by decide +kernel
theorem dX9_disk_31 : decode cX9_disk 31 = .ok (.ireturn, 1) := by decide +kernel
theorem dX9_noDisk_0 : decode cX9_noDisk 0 = .ok (.aload_n 0, 1) := by decide +kernel
theorem dX9_noDisk_1 : decode cX9_noDisk 1 = .ok (.getfield 139, 3) := by decide +kernel
theorem dX9_noDisk_4 : decode cX9_noDisk 4 = .ok (.istore_n 1, 1) := by decide +kernel
theorem dX9_noDisk_5 : decode cX9_noDisk 5 = .ok (.aload_n 0, 1) := by decide +kernel
theorem dX9_noDisk_6 : decode cX9_noDisk 6 = .ok (.iconst 0, 1) := by decide +kernel
theorem dX9_noDisk_7 : decode cX9_noDisk 7 = .ok (.putfield 139, 3) := by decide +kernel
theorem dX9_noDisk_10 : decode cX9_noDisk 10 = .ok (.aload_n 0, 1) := by decide +kernel
theorem dX9_noDisk_11 : decode cX9_noDisk 11 = .ok (.getfield 18, 3) := by decide +kernel
theorem dX9_noDisk_14 : decode cX9_noDisk 14 = .ok (.iconst 0, 1) := by decide +kernel
theorem dX9_noDisk_15 : decode cX9_noDisk 15 = .ok (.putfield 103, 3) := by decide +kernel
theorem dX9_noDisk_18 : decode cX9_noDisk 18 = .ok (.iload_n 1, 1) := by decide +kernel
theorem dX9_noDisk_19 : decode cX9_noDisk 19 = .ok (.ireturn, 1) := by decide +kernel
theorem dX9_key_0 : decode cX9_key 0 = .ok (.iload_n 1, 1) := by decide +kernel
theorem dX9_key_1 : decode cX9_key 1 = .ok (.ifCond .lt 8, 3) := by decide +kernel
theorem dX9_key_4 : decode cX9_key 4 = .ok (.iload_n 1, 1) := by decide +kernel
theorem dX9_key_5 : decode cX9_key 5 = .ok (.iconst 4, 1) := by decide +kernel
theorem dX9_key_6 : decode cX9_key 6 = .ok (.if_icmp .le 5, 3) := by decide +kernel
theorem dX9_key_9 : decode cX9_key 9 = .ok (.iconst 0, 1) := by decide +kernel
theorem dX9_key_10 : decode cX9_key 10 = .ok (.ireturn, 1) := by decide +kernel
theorem dX9_key_11 : decode cX9_key 11 = .ok (.aload_n 0, 1) := by decide +kernel
theorem dX9_key_12 : decode cX9_key 12 = .ok (.iload_n 1, 1) := by decide +kernel
theorem dX9_key_13 : decode cX9_key 13 = .ok (.putfield 142, 3) := by decide +kernel
theorem dX9_key_16 : decode cX9_key 16 = .ok (.iconst 1, 1) := by decide +kernel
theorem dX9_key_17 : decode cX9_key 17 = .ok (.ireturn, 1) := by decide +kernel
theorem dX9_tick_0 : decode cX9_tick 0 = .ok (.iload_n 1, 1) := by decide +kernel
theorem dX9_tick_1 : decode cX9_tick 1 = .ok (.ifCond .lt 20, 3) := by decide +kernel
theorem dX9_tick_4 : decode cX9_tick 4 = .ok (.iload_n 1, 1) := by decide +kernel
theorem dX9_tick_5 : decode cX9_tick 5 = .ok (.ldc 145, 2) := by decide +kernel
theorem dX9_tick_7 : decode cX9_tick 7 = .ok (.if_icmp .gt 14, 3) := by decide +kernel
theorem dX9_tick_10 : decode cX9_tick 10 = .ok (.iload_n 1, 1) := by decide +kernel
theorem dX9_tick_11 : decode cX9_tick 11 = .ok (.ldc 146, 2) := by decide +kernel
theorem dX9_tick_13 : decode cX9_tick 13 = .ok (.aload_n 0, 1) := by decide +kernel
theorem dX9_tick_14 : decode cX9_tick 14 = .ok (.getfield 147, 3) := by decide +kernel
theorem dX9_tick_17 : decode cX9_tick 17 = .ok (.isub, 1) := by decide +kernel
theorem dX9_tick_18 : decode cX9_tick 18 = .ok (.if_icmp .le 5, 3) := by decide +kernel
theorem dX9_tick_21 : decode cX9_tick 21 = .ok (.iconst 0, 1) := by decide +kernel
theorem dX9_tick_22 : decode cX9_tick 22 = .ok (.ireturn, 1) := by decide +kernel
theorem dX9_tick_23 : decode cX9_tick 23 = .ok (.aload_n 0, 1) := by decide +kernel
theorem dX9_tick_24 : decode cX9_tick 24 = .ok (.dup, 1) := by decide +kernel
theorem dX9_tick_25 : decode cX9_tick 25 = .ok (.getfield 147, 3) := by decide +kernel
theorem dX9_tick_28 : decode cX9_tick 28 = .ok (.iload_n 1, 1) := by decide +kernel
theorem dX9_tick_29 : decode cX9_tick 29 = .ok (.iadd, 1) := by decide +kernel
theorem dX9_tick_30 : decode cX9_tick 30 = .ok (.putfield 147, 3) := by decide +kernel
theorem dX9_tick_33 : decode cX9_tick 33 = .ok (.iconst 1, 1) := by decide +kernel
theorem dX9_tick_34 : decode cX9_tick 34 = .ok (.ireturn, 1) := by decide +kernel
theorem dX9_cutAt_0 : decode cX9_cutAt 0 = .ok (.iload_n 1, 1) := by decide +kernel
theorem dX9_cutAt_1 : decode cX9_cutAt 1 = .ok (.ifCond .lt 9, 3) := by decide +kernel
