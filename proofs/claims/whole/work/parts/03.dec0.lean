theorem dX0_init_0 : decode cX0_init 0 = .ok (.aload_n 0, 1) := by decide +kernel
theorem dX0_init_1 : decode cX0_init 1 = .ok (.invokespecial 3, 3) := by decide +kernel
theorem dX0_init_4 : decode cX0_init 4 = .ok (.aload_n 0, 1) := by decide +kernel
theorem dX0_init_5 : decode cX0_init 5 = .ok (.bipush 14, 2) := by decide +kernel
theorem dX0_init_7 : decode cX0_init 7 = .ok (.anewarray 9, 3) := by decide +kernel
theorem dX0_init_10 : decode cX0_init 10 = .ok (.putfield 11, 3) := by decide +kernel
theorem dX0_init_13 : decode cX0_init 13 = .ok (.iconst 0, 1) := by decide +kernel
theorem dX0_init_14 : decode cX0_init 14 = .ok (.istore_n 1, 1) := by decide +kernel
theorem dX0_init_15 : decode cX0_init 15 = .ok (.iload_n 1, 1) := by decide +kernel
theorem dX0_init_16 : decode cX0_init 16 = .ok (.bipush 14, 2) := by decide +kernel
theorem dX0_init_18 : decode cX0_init 18 = .ok (.if_icmp .ge 22, 3) := by decide +kernel
theorem dX0_init_21 : decode cX0_init 21 = .ok (.aload_n 0, 1) := by decide +kernel
theorem dX0_init_22 : decode cX0_init 22 = .ok (.getfield 11, 3) := by decide +kernel
theorem dX0_init_25 : decode cX0_init 25 = .ok (.iload_n 1, 1) := by decide +kernel
theorem dX0_init_26 : decode cX0_init 26 = .ok (.new 9, 3) := by decide +kernel
theorem dX0_init_29 : decode cX0_init 29 = .ok (.dup, 1) := by decide +kernel
theorem dX0_init_30 : decode cX0_init 30 = .ok (.invokespecial 17, 3) := by decide +kernel
theorem dX0_init_33 : decode cX0_init 33 = .ok (.aastore, 1) := by decide +kernel
theorem dX0_init_34 : decode cX0_init 34 = .ok (.iinc 1 1, 3) := by decide +kernel
theorem dX0_init_37 : decode cX0_init 37 = .ok (.goto (-22), 3) := by decide +kernel
theorem dX0_init_40 : decode cX0_init 40 = .ok (.return_, 1) := by decide +kernel
theorem dX0_forgetAll_0 : decode cX0_forgetAll 0 = .ok (.aload_n 0, 1) := by decide +kernel
theorem dX0_forgetAll_1 : decode cX0_forgetAll 1 = .ok (.iconst 0, 1) := by decide +kernel
theorem dX0_forgetAll_2 : decode cX0_forgetAll 2 = .ok (.putfield 18, 3) := by decide +kernel
theorem dX0_forgetAll_5 : decode cX0_forgetAll 5 = .ok (.return_, 1) := by decide +kernel
theorem dX0_remember_0 : decode cX0_remember 0 = .ok (.aload_n 1, 1) := by decide +kernel
theorem dX0_remember_1 : decode cX0_remember 1 = .ok (.aload_n 0, 1) := by decide +kernel
theorem dX0_remember_2 : decode cX0_remember 2 = .ok (.getfield 11, 3) := by decide +kernel
theorem dX0_remember_5 : decode cX0_remember 5 = .ok (.aload_n 0, 1) := by decide +kernel
theorem dX0_remember_6 : decode cX0_remember 6 = .ok (.getfield 22, 3) := by decide +kernel
theorem dX0_remember_9 : decode cX0_remember 9 = .ok (.aaload, 1) := by decide +kernel
theorem dX0_remember_10 : decode cX0_remember 10 = .ok (.invokestatic 25, 3) := by decide +kernel
theorem dX0_remember_13 : decode cX0_remember 13 = .ok (.aload_n 0, 1) := by decide +kernel
theorem dX0_remember_14 : decode cX0_remember 14 = .ok (.aload_n 0, 1) := by decide +kernel
theorem dX0_remember_15 : decode cX0_remember 15 = .ok (.getfield 22, 3) := by decide +kernel
theorem dX0_remember_18 : decode cX0_remember 18 = .ok (.iconst 1, 1) := by decide +kernel
theorem dX0_remember_19 : decode cX0_remember 19 = .ok (.iadd, 1) := by decide +kernel
theorem dX0_remember_20 : decode cX0_remember 20 = .ok (.bipush 14, 2) := by decide +kernel
theorem dX0_remember_22 : decode cX0_remember 22 = .ok (.irem, 1) := by decide +kernel
theorem dX0_remember_23 : decode cX0_remember 23 = .ok (.putfield 22, 3) := by decide +kernel
theorem dX0_remember_26 : decode cX0_remember 26 = .ok (.aload_n 0, 1) := by decide +kernel
theorem dX0_remember_27 : decode cX0_remember 27 = .ok (.aload_n 0, 1) := by decide +kernel
theorem dX0_remember_28 : decode cX0_remember 28 = .ok (.getfield 18, 3) := by decide +kernel
theorem dX0_remember_31 : decode cX0_remember 31 = .ok (.iconst 1, 1) := by decide +kernel
theorem dX0_remember_32 : decode cX0_remember 32 = .ok (.iadd, 1) := by decide +kernel
theorem dX0_remember_33 : decode cX0_remember 33 = .ok (.bipush 14, 2) := by decide +kernel
theorem dX0_remember_35 : decode cX0_remember 35 = .ok (.invokestatic 29, 3) := by decide +kernel
theorem dX0_remember_38 : decode cX0_remember 38 = .ok (.putfield 18, 3) := by decide +kernel
theorem dX0_remember_41 : decode cX0_remember 41 = .ok (.return_, 1) := by decide +kernel
theorem dX0_takeBack_0 : decode cX0_takeBack 0 = .ok (.aload_n 0, 1) := by decide +kernel
theorem dX0_takeBack_1 : decode cX0_takeBack 1 = .ok (.getfield 18, 3) := by decide +kernel
theorem dX0_takeBack_4 : decode cX0_takeBack 4 = .ok (.ifCond .le 42, 3) := by decide +kernel
theorem dX0_takeBack_7 : decode cX0_takeBack 7 = .ok (.aload_n 0, 1) := by decide +kernel
theorem dX0_takeBack_8 : decode cX0_takeBack 8 = .ok (.aload_n 0, 1) := by decide +kernel
theorem dX0_takeBack_9 : decode cX0_takeBack 9 = .ok (.getfield 22, 3) := by decide +kernel
theorem dX0_takeBack_12 : decode cX0_takeBack 12 = .ok (.bipush 14, 2) := by decide +kernel
theorem dX0_takeBack_14 : decode cX0_takeBack 14 = .ok (.iadd, 1) := by decide +kernel
theorem dX0_takeBack_15 : decode cX0_takeBack 15 = .ok (.iconst 1, 1) := by decide +kernel
theorem dX0_takeBack_16 : decode cX0_takeBack 16 = .ok (.isub, 1) := by decide +kernel
theorem dX0_takeBack_17 : decode cX0_takeBack 17 = .ok (.bipush 14, 2) := by decide +kernel
theorem dX0_takeBack_19 : decode cX0_takeBack 19 = .ok (.irem, 1) := by decide +kernel
theorem dX0_takeBack_20 : decode cX0_takeBack 20 = .ok (.putfield 22, 3) := by decide +kernel
theorem dX0_takeBack_23 : decode cX0_takeBack 23 = .ok (.aload_n 0, 1) := by decide +kernel
theorem dX0_takeBack_24 : decode cX0_takeBack 24 = .ok (.dup, 1) := by decide +kernel
theorem dX0_takeBack_25 : decode cX0_takeBack 25 = .ok (.getfield 18, 3) := by decide +kernel
theorem dX0_takeBack_28 : decode cX0_takeBack 28 = .ok (.iconst 1, 1) := by decide +kernel
theorem dX0_takeBack_29 : decode cX0_takeBack 29 = .ok (.isub, 1) := by decide +kernel
theorem dX0_takeBack_30 : decode cX0_takeBack 30 = .ok (.putfield 18, 3) := by decide +kernel
theorem dX0_takeBack_33 : decode cX0_takeBack 33 = .ok (.aload_n 0, 1) := by decide +kernel
theorem dX0_takeBack_34 : decode cX0_takeBack 34 = .ok (.getfield 11, 3) := by decide +kernel
theorem dX0_takeBack_37 : decode cX0_takeBack 37 = .ok (.aload_n 0, 1) := by decide +kernel
theorem dX0_takeBack_38 : decode cX0_takeBack 38 = .ok (.getfield 22, 3) := by decide +kernel
theorem dX0_takeBack_41 : decode cX0_takeBack 41 = .ok (.aaload, 1) := by decide +kernel
theorem dX0_takeBack_42 : decode cX0_takeBack 42 = .ok (.aload_n 1, 1) := by decide +kernel
theorem dX0_takeBack_43 : decode cX0_takeBack 43 = .ok (.invokestatic 25, 3) := by decide +kernel
theorem dX0_takeBack_46 : decode cX0_takeBack 46 = .ok (.return_, 1) := by decide +kernel
theorem dX1_init_0 : decode cX1_init 0 = .ok (.aload_n 0, 1) := by decide +kernel
theorem dX1_init_1 : decode cX1_init 1 = .ok (.invokespecial 3, 3) := by decide +kernel
theorem dX1_init_4 : decode cX1_init 4 = .ok (.aload_n 0, 1) := by decide +kernel
theorem dX1_init_5 : decode cX1_init 5 = .ok (.iconst 5, 1) := by decide +kernel
theorem dX1_init_6 : decode cX1_init 6 = .ok (.newarray .int, 2) := by decide +kernel
theorem dX1_init_8 : decode cX1_init 8 = .ok (.putfield 9, 3) := by decide +kernel
theorem dX1_init_11 : decode cX1_init 11 = .ok (.aload_n 0, 1) := by decide +kernel
theorem dX1_init_12 : decode cX1_init 12 = .ok (.iconst 5, 1) := by decide +kernel
theorem dX1_init_13 : decode cX1_init 13 = .ok (.newarray .int, 2) := by decide +kernel
theorem dX1_init_15 : decode cX1_init 15 = .ok (.putfield 15, 3) := by decide +kernel
theorem dX1_init_18 : decode cX1_init 18 = .ok (.aload_n 0, 1) := by decide +kernel
theorem dX1_init_19 : decode cX1_init 19 = .ok (.iconst 3, 1) := by decide +kernel
theorem dX1_init_20 : decode cX1_init 20 = .ok (.newarray .int, 2) := by decide +kernel
theorem dX1_init_22 : decode cX1_init 22 = .ok (.putfield 18, 3) := by decide +kernel
theorem dX1_init_25 : decode cX1_init 25 = .ok (.aload_n 0, 1) := by decide +kernel
theorem dX1_init_26 : decode cX1_init 26 = .ok (.iconst 3, 1) := by decide +kernel
theorem dX1_init_27 : decode cX1_init 27 = .ok (.newarray .int, 2) := by decide +kernel
theorem dX1_init_29 : decode cX1_init 29 = .ok (.putfield 21, 3) := by decide +kernel
theorem dX1_init_32 : decode cX1_init 32 = .ok (.return_, 1) := by decide +kernel
theorem dX1_readFrom_0 : decode cX1_readFrom 0 = .ok (.aload_n 0, 1) := by decide +kernel
theorem dX1_readFrom_1 : decode cX1_readFrom 1 = .ok (.iconst 0, 1) := by decide +kernel
theorem dX1_readFrom_2 : decode cX1_readFrom 2 = .ok (.putfield 24, 3) := by decide +kernel
theorem dX1_readFrom_5 : decode cX1_readFrom 5 = .ok (.aload_n 0, 1) := by decide +kernel
theorem dX1_readFrom_6 : decode cX1_readFrom 6 = .ok (.iconst 0, 1) := by decide +kernel
theorem dX1_readFrom_7 : decode cX1_readFrom 7 = .ok (.putfield 28, 3) := by decide +kernel
theorem dX1_readFrom_10 : decode cX1_readFrom 10 = .ok (.aload_n 0, 1) := by decide +kernel
theorem dX1_readFrom_11 : decode cX1_readFrom 11 = .ok (.aload_n 1, 1) := by decide +kernel
theorem dX1_readFrom_12 : decode cX1_readFrom 12 = .ok (.iconst 1, 1) := by decide +kernel
theorem dX1_readFrom_13 : decode cX1_readFrom 13 = .ok (.invokevirtual 31, 3) := by decide +kernel
theorem dX1_readFrom_16 : decode cX1_readFrom 16 = .ok (.putfield 37, 3) := by decide +kernel
theorem dX1_readFrom_19 : decode cX1_readFrom 19 = .ok (.iconst 2, 1) := by decide +kernel
theorem dX1_readFrom_20 : decode cX1_readFrom 20 = .ok (.istore_n 2, 1) := by decide +kernel
theorem dX1_readFrom_21 : decode cX1_readFrom 21 = .ok (.iload_n 2, 1) := by decide +kernel
theorem dX1_readFrom_22 : decode cX1_readFrom 22 = .ok (.aload_n 1, 1) := by decide +kernel
theorem dX1_readFrom_23 : decode cX1_readFrom 23 = .ok (.getfield 40, 3) := by decide +kernel
theorem dX1_readFrom_26 : decode cX1_readFrom 26 = .ok (.if_icmp .ge 58, 3) := by decide +kernel
theorem dX1_readFrom_29 : decode cX1_readFrom 29 = .ok (.aload_n 1, 1) := by decide +kernel
theorem dX1_readFrom_30 : decode cX1_readFrom 30 = .ok (.iload_n 2, 1) := by decide +kernel
theorem dX1_readFrom_31 : decode cX1_readFrom 31 = .ok (.invokevirtual 43, 3) := by decide +kernel
theorem dX1_readFrom_34 : decode cX1_readFrom 34 = .ok (.bipush 72, 2) := by decide +kernel
theorem dX1_readFrom_36 : decode cX1_readFrom 36 = .ok (.if_icmp .ne 24, 3) := by decide +kernel
theorem dX1_readFrom_39 : decode cX1_readFrom 39 = .ok (.aload_n 0, 1) := by decide +kernel
theorem dX1_readFrom_40 : decode cX1_readFrom 40 = .ok (.aload_n 1, 1) := by decide +kernel
theorem dX1_readFrom_41 : decode cX1_readFrom 41 = .ok (.iload_n 2, 1) := by decide +kernel
theorem dX1_readFrom_42 : decode cX1_readFrom 42 = .ok (.iconst 1, 1) := by decide +kernel
theorem dX1_readFrom_43 : decode cX1_readFrom 43 = .ok (.iadd, 1) := by decide +kernel
theorem dX1_readFrom_44 : decode cX1_readFrom 44 = .ok (.invokevirtual 31, 3) := by decide +kernel
theorem dX1_readFrom_47 : decode cX1_readFrom 47 = .ok (.aload_n 1, 1) := by decide +kernel
theorem dX1_readFrom_48 : decode cX1_readFrom 48 = .ok (.iload_n 2, 1) := by decide +kernel
theorem dX1_readFrom_49 : decode cX1_readFrom 49 = .ok (.iconst 2, 1) := by decide +kernel
theorem dX1_readFrom_50 : decode cX1_readFrom 50 = .ok (.iadd, 1) := by decide +kernel
theorem dX1_readFrom_51 : decode cX1_readFrom 51 = .ok (.invokevirtual 31, 3) := by decide +kernel
theorem dX1_readFrom_54 : decode cX1_readFrom 54 = .ok (.invokevirtual 46, 3) := by decide +kernel
theorem dX1_readFrom_57 : decode cX1_readFrom 57 = .ok (.goto 21, 3) := by decide +kernel
theorem dX1_readFrom_60 : decode cX1_readFrom 60 = .ok (.aload_n 0, 1) := by decide +kernel
theorem dX1_readFrom_61 : decode cX1_readFrom 61 = .ok (.aload_n 1, 1) := by decide +kernel
theorem dX1_readFrom_62 : decode cX1_readFrom 62 = .ok (.iload_n 2, 1) := by decide +kernel
theorem dX1_readFrom_63 : decode cX1_readFrom 63 = .ok (.iconst 1, 1) := by decide +kernel
theorem dX1_readFrom_64 : decode cX1_readFrom 64 = .ok (.iadd, 1) := by decide +kernel
theorem dX1_readFrom_65 : decode cX1_readFrom 65 = .ok (.invokevirtual 31, 3) := by decide +kernel
theorem dX1_readFrom_68 : decode cX1_readFrom 68 = .ok (.aload_n 1, 1) := by decide +kernel
theorem dX1_readFrom_69 : decode cX1_readFrom 69 = .ok (.iload_n 2, 1) := by decide +kernel
theorem dX1_readFrom_70 : decode cX1_readFrom 70 = .ok (.iconst 2, 1) := by decide +kernel
theorem dX1_readFrom_71 : decode cX1_readFrom 71 = .ok (.iadd, 1) := by decide +kernel
theorem dX1_readFrom_72 : decode cX1_readFrom 72 = .ok (.invokevirtual 31, 3) := by decide +kernel
theorem dX1_readFrom_75 : decode cX1_readFrom 75 = .ok (.invokevirtual 50, 3) := by decide +kernel
theorem dX1_readFrom_78 : decode cX1_readFrom 78 = .ok (.iinc 2 3, 3) := by decide +kernel
theorem dX1_readFrom_81 : decode cX1_readFrom 81 = .ok (.goto (-60), 3) := by decide +kernel
theorem dX1_readFrom_84 : decode cX1_readFrom 84 = .ok (.return_, 1) := by decide +kernel
theorem dX1_addHand_0 : decode cX1_addHand 0 = .ok (.aload_n 0, 1) := by decide +kernel
theorem dX1_addHand_1 : decode cX1_addHand 1 = .ok (.getfield 24, 3) := by decide +kernel
theorem dX1_addHand_4 : decode cX1_addHand 4 = .ok (.iconst 5, 1) := by decide +kernel
theorem dX1_addHand_5 : decode cX1_addHand 5 = .ok (.if_icmp .ge 33, 3) := by decide +kernel
theorem dX1_addHand_8 : decode cX1_addHand 8 = .ok (.aload_n 0, 1) := by decide +kernel
theorem dX1_addHand_9 : decode cX1_addHand 9 = .ok (.getfield 9, 3) := by decide +kernel
theorem dX1_addHand_12 : decode cX1_addHand 12 = .ok (.aload_n 0, 1) := by decide +kernel
theorem dX1_addHand_13 : decode cX1_addHand 13 = .ok (.getfield 24, 3) := by decide +kernel
theorem dX1_addHand_16 : decode cX1_addHand 16 = .ok (.iload_n 1, 1) := by decide +kernel
theorem dX1_addHand_17 : decode cX1_addHand 17 = .ok (.iastore, 1) := by decide +kernel
theorem dX1_addHand_18 : decode cX1_addHand 18 = .ok (.aload_n 0, 1) := by decide +kernel
theorem dX1_addHand_19 : decode cX1_addHand 19 = .ok (.getfield 15, 3) := by decide +kernel
theorem dX1_addHand_22 : decode cX1_addHand 22 = .ok (.aload_n 0, 1) := by decide +kernel
theorem dX1_addHand_23 : decode cX1_addHand 23 = .ok (.getfield 24, 3) := by decide +kernel
theorem dX1_addHand_26 : decode cX1_addHand 26 = .ok (.iload_n 2, 1) := by decide +kernel
theorem dX1_addHand_27 : decode cX1_addHand 27 = .ok (.iastore, 1) := by decide +kernel
theorem dX1_addHand_28 : decode cX1_addHand 28 = .ok (.aload_n 0, 1) := by decide +kernel
theorem dX1_addHand_29 : decode cX1_addHand 29 = .ok (.dup, 1) := by decide +kernel
theorem dX1_addHand_30 : decode cX1_addHand 30 = .ok (.getfield 24, 3) := by decide +kernel
theorem dX1_addHand_33 : decode cX1_addHand 33 = .ok (.iconst 1, 1) := by decide +kernel
theorem dX1_addHand_34 : decode cX1_addHand 34 = .ok (.iadd, 1) := by decide +kernel
theorem dX1_addHand_35 : decode cX1_addHand 35 = .ok (.putfield 24, 3) := by decide +kernel
theorem dX1_addHand_38 : decode cX1_addHand 38 = .ok (.return_, 1) := by decide +kernel
theorem dX1_addField_0 : decode cX1_addField 0 = .ok (.aload_n 0, 1) := by decide +kernel
theorem dX1_addField_1 : decode cX1_addField 1 = .ok (.getfield 28, 3) := by decide +kernel
theorem dX1_addField_4 : decode cX1_addField 4 = .ok (.iconst 3, 1) := by decide +kernel
theorem dX1_addField_5 : decode cX1_addField 5 = .ok (.if_icmp .ge 33, 3) := by decide +kernel
theorem dX1_addField_8 : decode cX1_addField 8 = .ok (.aload_n 0, 1) := by decide +kernel
theorem dX1_addField_9 : decode cX1_addField 9 = .ok (.getfield 18, 3) := by decide +kernel
theorem dX1_addField_12 : decode cX1_addField 12 = .ok (.aload_n 0, 1) := by decide +kernel
theorem dX1_addField_13 : decode cX1_addField 13 = .ok (.getfield 28, 3) := by decide +kernel
theorem dX1_addField_16 : decode cX1_addField 16 = .ok (.iload_n 1, 1) := by decide +kernel
theorem dX1_addField_17 : decode cX1_addField 17 = .ok (.iastore, 1) := by decide +kernel
theorem dX1_addField_18 : decode cX1_addField 18 = .ok (.aload_n 0, 1) := by decide +kernel
theorem dX1_addField_19 : decode cX1_addField 19 = .ok (.getfield 21, 3) := by decide +kernel
theorem dX1_addField_22 : decode cX1_addField 22 = .ok (.aload_n 0, 1) := by decide +kernel
theorem dX1_addField_23 : decode cX1_addField 23 = .ok (.getfield 28, 3) := by decide +kernel
theorem dX1_addField_26 : decode cX1_addField 26 = .ok (.iload_n 2, 1) := by decide +kernel
theorem dX1_addField_27 : decode cX1_addField 27 = .ok (.iastore, 1) := by decide +kernel
theorem dX1_addField_28 : decode cX1_addField 28 = .ok (.aload_n 0, 1) := by decide +kernel
theorem dX1_addField_29 : decode cX1_addField 29 = .ok (.dup, 1) := by decide +kernel
theorem dX1_addField_30 : decode cX1_addField 30 = .ok (.getfield 28, 3) := by decide +kernel
theorem dX1_addField_33 : decode cX1_addField 33 = .ok (.iconst 1, 1) := by decide +kernel
theorem dX1_addField_34 : decode cX1_addField 34 = .ok (.iadd, 1) := by decide +kernel
theorem dX1_addField_35 : decode cX1_addField 35 = .ok (.putfield 28, 3) := by decide +kernel
theorem dX1_addField_38 : decode cX1_addField 38 = .ok (.return_, 1) := by decide +kernel
theorem dX1_hasHand_0 : decode cX1_hasHand 0 = .ok (.iload_n 1, 1) := by decide +kernel
theorem dX1_hasHand_1 : decode cX1_hasHand 1 = .ok (.ifCond .lt 15, 3) := by decide +kernel
theorem dX1_hasHand_4 : decode cX1_hasHand 4 = .ok (.iload_n 1, 1) := by decide +kernel
theorem dX1_hasHand_5 : decode cX1_hasHand 5 = .ok (.aload_n 0, 1) := by decide +kernel
theorem dX1_hasHand_6 : decode cX1_hasHand 6 = .ok (.getfield 24, 3) := by decide +kernel
theorem dX1_hasHand_9 : decode cX1_hasHand 9 = .ok (.if_icmp .ge 7, 3) := by decide +kernel
theorem dX1_hasHand_12 : decode cX1_hasHand 12 = .ok (.iconst 1, 1) := by decide +kernel
theorem dX1_hasHand_13 : decode cX1_hasHand 13 = .ok (.goto 4, 3) := by decide +kernel
theorem dX1_hasHand_16 : decode cX1_hasHand 16 = .ok (.iconst 0, 1) := by decide +kernel
theorem dX1_hasHand_17 : decode cX1_hasHand 17 = .ok (.ireturn, 1) := by decide +kernel
theorem dX1_hasField_0 : decode cX1_hasField 0 = .ok (.iload_n 1, 1) := by decide +kernel
theorem dX1_hasField_1 : decode cX1_hasField 1 = .ok (.ifCond .lt 15, 3) := by decide +kernel
theorem dX1_hasField_4 : decode cX1_hasField 4 = .ok (.iload_n 1, 1) := by decide +kernel
theorem dX1_hasField_5 : decode cX1_hasField 5 = .ok (.aload_n 0, 1) := by decide +kernel
theorem dX1_hasField_6 : decode cX1_hasField 6 = .ok (.getfield 28, 3) := by decide +kernel
theorem dX1_hasField_9 : decode cX1_hasField 9 = .ok (.if_icmp .ge 7, 3) := by decide +kernel
theorem dX1_hasField_12 : decode cX1_hasField 12 = .ok (.iconst 1, 1) := by decide +kernel
theorem dX1_hasField_13 : decode cX1_hasField 13 = .ok (.goto 4, 3) := by decide +kernel
theorem dX1_hasField_16 : decode cX1_hasField 16 = .ok (.iconst 0, 1) := by decide +kernel
theorem dX1_hasField_17 : decode cX1_hasField 17 = .ok (.ireturn, 1) := by decide +kernel
theorem dX1_hasTask_0 : decode cX1_hasTask 0 = .ok (.iload_n 1, 1) := by decide +kernel
theorem dX1_hasTask_1 : decode cX1_hasTask 1 = .ok (.ifCond .eq 18, 3) := by decide +kernel
theorem dX1_hasTask_4 : decode cX1_hasTask 4 = .ok (.iload_n 1, 1) := by decide +kernel
theorem dX1_hasTask_5 : decode cX1_hasTask 5 = .ok (.iconst 1, 1) := by decide +kernel
theorem dX1_hasTask_6 : decode cX1_hasTask 6 = .ok (.if_icmp .eq 13, 3) := by decide +kernel
theorem dX1_hasTask_9 : decode cX1_hasTask 9 = .ok (.aload_n 0, 1) := by decide +kernel
theorem dX1_hasTask_10 : decode cX1_hasTask 10 = .ok (.iload_n 1, 1) := by decide +kernel
theorem dX1_hasTask_11 : decode cX1_hasTask 11 = .ok (.iconst 2, 1) := by decide +kernel
theorem dX1_hasTask_12 : decode cX1_hasTask 12 = .ok (.isub, 1) := by decide +kernel
theorem dX1_hasTask_13 : decode cX1_hasTask 13 = .ok (.invokevirtual 53, 3) := by decide +kernel
theorem dX1_hasTask_16 : decode cX1_hasTask 16 = .ok (.ifCond .eq 7, 3) := by decide +kernel
theorem dX1_hasTask_19 : decode cX1_hasTask 19 = .ok (.iconst 1, 1) := by decide +kernel
theorem dX1_hasTask_20 : decode cX1_hasTask 20 = .ok (.goto 4, 3) := by decide +kernel
theorem dX1_hasTask_23 : decode cX1_hasTask 23 = .ok (.iconst 0, 1) := by decide +kernel
theorem dX1_hasTask_24 : decode cX1_hasTask 24 = .ok (.ireturn, 1) := by decide +kernel
theorem dX1_moulds_0 : decode cX1_moulds 0 = .ok (.aload_n 0, 1) := by decide +kernel
theorem dX1_moulds_1 : decode cX1_moulds 1 = .ok (.iload_n 1, 1) := by decide +kernel
theorem dX1_moulds_2 : decode cX1_moulds 2 = .ok (.invokevirtual 57, 3) := by decide +kernel
theorem dX1_moulds_5 : decode cX1_moulds 5 = .ok (.ifCond .ne 5, 3) := by decide +kernel
theorem dX1_moulds_8 : decode cX1_moulds 8 = .ok (.iconst 0, 1) := by decide +kernel
theorem dX1_moulds_9 : decode cX1_moulds 9 = .ok (.ireturn, 1) := by decide +kernel
theorem dX1_moulds_10 : decode cX1_moulds 10 = .ok (.aload_n 0, 1) := by decide +kernel
theorem dX1_moulds_11 : decode cX1_moulds 11 = .ok (.getfield 15, 3) := by decide +kernel
theorem dX1_moulds_14 : decode cX1_moulds 14 = .ok (.iload_n 1, 1) := by decide +kernel
theorem dX1_moulds_15 : decode cX1_moulds 15 = .ok (.iaload, 1) := by decide +kernel
theorem dX1_moulds_16 : decode cX1_moulds 16 = .ok (.tableswitch 48 1 3 #[28, 37, 46], 28) := by decide +kernel
theorem dX1_moulds_44 : decode cX1_moulds 44 = .ok (.aload_n 0, 1) := by decide +kernel
theorem dX1_moulds_45 : decode cX1_moulds 45 = .ok (.getfield 9, 3) := by decide +kernel
theorem dX1_moulds_48 : decode cX1_moulds 48 = .ok (.iload_n 1, 1) := by decide +kernel
theorem dX1_moulds_49 : decode cX1_moulds 49 = .ok (.iaload, 1) := by decide +kernel
theorem dX1_moulds_50 : decode cX1_moulds 50 = .ok (.iconst 2, 1) := by decide +kernel
theorem dX1_moulds_51 : decode cX1_moulds 51 = .ok (.iadd, 1) := by decide +kernel
theorem dX1_moulds_52 : decode cX1_moulds 52 = .ok (.ireturn, 1) := by decide +kernel
theorem dX1_moulds_53 : decode cX1_moulds 53 = .ok (.aload_n 0, 1) := by decide +kernel
theorem dX1_moulds_54 : decode cX1_moulds 54 = .ok (.getfield 9, 3) := by decide +kernel
theorem dX1_moulds_57 : decode cX1_moulds 57 = .ok (.iload_n 1, 1) := by decide +kernel
theorem dX1_moulds_58 : decode cX1_moulds 58 = .ok (.iaload, 1) := by decide +kernel
theorem dX1_moulds_59 : decode cX1_moulds 59 = .ok (.iconst 1, 1) := by decide +kernel
theorem dX1_moulds_60 : decode cX1_moulds 60 = .ok (.isub, 1) := by decide +kernel
theorem dX1_moulds_61 : decode cX1_moulds 61 = .ok (.ireturn, 1) := by decide +kernel
theorem dX1_moulds_62 : decode cX1_moulds 62 = .ok (.iconst 0, 1) := by decide +kernel
theorem dX1_moulds_63 : decode cX1_moulds 63 = .ok (.ireturn, 1) := by decide +kernel
theorem dX1_moulds_64 : decode cX1_moulds 64 = .ok (.aload_n 0, 1) := by decide +kernel
theorem dX1_moulds_65 : decode cX1_moulds 65 = .ok (.getfield 9, 3) := by decide +kernel
theorem dX1_moulds_68 : decode cX1_moulds 68 = .ok (.iload_n 1, 1) := by decide +kernel
theorem dX1_moulds_69 : decode cX1_moulds 69 = .ok (.iaload, 1) := by decide +kernel
theorem dX1_moulds_70 : decode cX1_moulds 70 = .ok (.ireturn, 1) := by decide +kernel
theorem dX1_gathers_0 : decode cX1_gathers 0 = .ok (.aload_n 0, 1) := by decide +kernel
theorem dX1_gathers_1 : decode cX1_gathers 1 = .ok (.iload_n 1, 1) := by decide +kernel
theorem dX1_gathers_2 : decode cX1_gathers 2 = .ok (.invokevirtual 57, 3) := by decide +kernel
theorem dX1_gathers_5 : decode cX1_gathers 5 = .ok (.ifCond .eq 11, 3) := by decide +kernel
theorem dX1_gathers_8 : decode cX1_gathers 8 = .ok (.aload_n 0, 1) := by decide +kernel
theorem dX1_gathers_9 : decode cX1_gathers 9 = .ok (.iload_n 2, 1) := by decide +kernel
theorem dX1_gathers_10 : decode cX1_gathers 10 = .ok (.invokevirtual 53, 3) := by decide +kernel
theorem dX1_gathers_13 : decode cX1_gathers 13 = .ok (.ifCond .ne 5, 3) := by decide +kernel
theorem dX1_gathers_16 : decode cX1_gathers 16 = .ok (.iconst 0, 1) := by decide +kernel
theorem dX1_gathers_17 : decode cX1_gathers 17 = .ok (.ireturn, 1) := by decide +kernel
theorem dX1_gathers_18 : decode cX1_gathers 18 = .ok (.aload_n 0, 1) := by decide +kernel
theorem dX1_gathers_19 : decode cX1_gathers 19 = .ok (.getfield 15, 3) := by decide +kernel
theorem dX1_gathers_22 : decode cX1_gathers 22 = .ok (.iload_n 1, 1) := by decide +kernel
theorem dX1_gathers_23 : decode cX1_gathers 23 = .ok (.iaload, 1) := by decide +kernel
theorem dX1_gathers_24 : decode cX1_gathers 24 = .ok (.iconst 2, 1) := by decide +kernel
theorem dX1_gathers_25 : decode cX1_gathers 25 = .ok (.if_icmp .ne 7, 3) := by decide +kernel
theorem dX1_gathers_28 : decode cX1_gathers 28 = .ok (.iconst 1, 1) := by decide +kernel
theorem dX1_gathers_29 : decode cX1_gathers 29 = .ok (.goto 4, 3) := by decide +kernel
theorem dX1_gathers_32 : decode cX1_gathers 32 = .ok (.iconst 0, 1) := by decide +kernel
theorem dX1_gathers_33 : decode cX1_gathers 33 = .ok (.istore_n 3, 1) := by decide +kernel
theorem dX1_gathers_34 : decode cX1_gathers 34 = .ok (.iconst 0, 1) := by decide +kernel
theorem dX1_gathers_35 : decode cX1_gathers 35 = .ok (.aload_n 0, 1) := by decide +kernel
theorem dX1_gathers_36 : decode cX1_gathers 36 = .ok (.getfield 9, 3) := by decide +kernel
theorem dX1_gathers_39 : decode cX1_gathers 39 = .ok (.iload_n 1, 1) := by decide +kernel
theorem dX1_gathers_40 : decode cX1_gathers 40 = .ok (.iaload, 1) := by decide +kernel
theorem dX1_gathers_41 : decode cX1_gathers 41 = .ok (.aload_n 0, 1) := by decide +kernel
theorem dX1_gathers_42 : decode cX1_gathers 42 = .ok (.getfield 18, 3) := by decide +kernel
theorem dX1_gathers_45 : decode cX1_gathers 45 = .ok (.iload_n 2, 1) := by decide +kernel
theorem dX1_gathers_46 : decode cX1_gathers 46 = .ok (.iaload, 1) := by decide +kernel
theorem dX1_gathers_47 : decode cX1_gathers 47 = .ok (.isub, 1) := by decide +kernel
theorem dX1_gathers_48 : decode cX1_gathers 48 = .ok (.iload_n 3, 1) := by decide +kernel
theorem dX1_gathers_49 : decode cX1_gathers 49 = .ok (.isub, 1) := by decide +kernel
theorem dX1_gathers_50 : decode cX1_gathers 50 = .ok (.invokestatic 60, 3) := by decide +kernel
theorem dX1_gathers_53 : decode cX1_gathers 53 = .ok (.ireturn, 1) := by decide +kernel
theorem dX2_init_0 : decode cX2_init 0 = .ok (.aload_n 0, 1) := by decide +kernel
theorem dX2_init_1 : decode cX2_init 1 = .ok (.invokespecial 3, 3) := by decide +kernel
theorem dX2_init_4 : decode cX2_init 4 = .ok (.aload_n 0, 1) := by decide +kernel
theorem dX2_init_5 : decode cX2_init 5 = .ok (.iconst 5, 1) := by decide +kernel
theorem dX2_init_6 : decode cX2_init 6 = .ok (.newarray .int, 2) := by decide +kernel
theorem dX2_init_8 : decode cX2_init 8 = .ok (.putfield 9, 3) := by decide +kernel
theorem dX2_init_11 : decode cX2_init 11 = .ok (.return_, 1) := by decide +kernel
theorem dX2_readFigures_0 : decode cX2_readFigures 0 = .ok (.iload_n 2, 1) := by decide +kernel
theorem dX2_readFigures_1 : decode cX2_readFigures 1 = .ok (.ifCond .ge 5, 3) := by decide +kernel
theorem dX2_readFigures_4 : decode cX2_readFigures 4 = .ok (.iconst 0, 1) := by decide +kernel
theorem dX2_readFigures_5 : decode cX2_readFigures 5 = .ok (.ireturn, 1) := by decide +kernel
theorem dX2_readFigures_6 : decode cX2_readFigures 6 = .ok (.iload_n 2, 1) := by decide +kernel
theorem dX2_readFigures_7 : decode cX2_readFigures 7 = .ok (.istore_n 3, 1) := by decide +kernel
theorem dX2_readFigures_8 : decode cX2_readFigures 8 = .ok (.aload_n 1, 1) := by decide +kernel
theorem dX2_readFigures_9 : decode cX2_readFigures 9 = .ok (.getfield 15, 3) := by decide +kernel
theorem dX2_readFigures_12 : decode cX2_readFigures 12 = .ok (.iconst 1, 1) := by decide +kernel
theorem dX2_readFigures_13 : decode cX2_readFigures 13 = .ok (.isub, 1) := by decide +kernel
theorem dX2_readFigures_14 : decode cX2_readFigures 14 = .ok (.istore 4, 2) := by decide +kernel
theorem dX2_readFigures_16 : decode cX2_readFigures 16 = .ok (.iload 4, 2) := by decide +kernel
theorem dX2_readFigures_18 : decode cX2_readFigures 18 = .ok (.ifCond .lt 41, 3) := by decide +kernel
theorem dX2_readFigures_21 : decode cX2_readFigures 21 = .ok (.aload_n 0, 1) := by decide +kernel
theorem dX2_readFigures_22 : decode cX2_readFigures 22 = .ok (.getfield 9, 3) := by decide +kernel
theorem dX2_readFigures_25 : decode cX2_readFigures 25 = .ok (.iload 4, 2) := by decide +kernel
theorem dX2_readFigures_27 : decode cX2_readFigures 27 = .ok (.iload_n 3, 1) := by decide +kernel
theorem dX2_readFigures_28 : decode cX2_readFigures 28 = .ok (.bipush 10, 2) := by decide +kernel
theorem dX2_readFigures_30 : decode cX2_readFigures 30 = .ok (.irem, 1) := by decide +kernel
theorem dX2_readFigures_31 : decode cX2_readFigures 31 = .ok (.iastore, 1) := by decide +kernel
theorem dX2_readFigures_32 : decode cX2_readFigures 32 = .ok (.aload_n 1, 1) := by decide +kernel
theorem dX2_readFigures_33 : decode cX2_readFigures 33 = .ok (.aload_n 0, 1) := by decide +kernel
theorem dX2_readFigures_34 : decode cX2_readFigures 34 = .ok (.getfield 9, 3) := by decide +kernel
theorem dX2_readFigures_37 : decode cX2_readFigures 37 = .ok (.iload 4, 2) := by decide +kernel
theorem dX2_readFigures_39 : decode cX2_readFigures 39 = .ok (.iaload, 1) := by decide +kernel
theorem dX2_readFigures_40 : decode cX2_readFigures 40 = .ok (.invokevirtual 21, 3) := by decide +kernel
theorem dX2_readFigures_43 : decode cX2_readFigures 43 = .ok (.ifCond .ne 5, 3) := by decide +kernel
theorem dX2_readFigures_46 : decode cX2_readFigures 46 = .ok (.iconst 0, 1) := by decide +kernel
theorem dX2_readFigures_47 : decode cX2_readFigures 47 = .ok (.ireturn, 1) := by decide +kernel
theorem dX2_readFigures_48 : decode cX2_readFigures 48 = .ok (.iload_n 3, 1) := by decide +kernel
theorem dX2_readFigures_49 : decode cX2_readFigures 49 = .ok (.bipush 10, 2) := by decide +kernel
theorem dX2_readFigures_51 : decode cX2_readFigures 51 = .ok (.idiv, 1) := by decide +kernel
theorem dX2_readFigures_52 : decode cX2_readFigures 52 = .ok (.istore_n 3, 1) := by decide +kernel
theorem dX2_readFigures_53 : decode cX2_readFigures 53 = .ok (.iinc 4 (-1), 3) := by decide +kernel
theorem dX2_readFigures_56 : decode cX2_readFigures 56 = .ok (.goto (-40), 3) := by decide +kernel
theorem dX2_readFigures_59 : decode cX2_readFigures 59 = .ok (.iload_n 3, 1) := by decide +kernel
theorem dX2_readFigures_60 : decode cX2_readFigures 60 = .ok (.ifCond .ne 7, 3) := by decide +kernel
theorem dX2_readFigures_63 : decode cX2_readFigures 63 = .ok (.iconst 1, 1) := by decide +kernel
theorem dX2_readFigures_64 : decode cX2_readFigures 64 = .ok (.goto 4, 3) := by decide +kernel
theorem dX2_readFigures_67 : decode cX2_readFigures 67 = .ok (.iconst 0, 1) := by decide +kernel
theorem dX2_readFigures_68 : decode cX2_readFigures 68 = .ok (.ireturn, 1) := by decide +kernel
theorem dX2_weighAll_0 : decode cX2_weighAll 0 = .ok (.aload_n 0, 1) := by decide +kernel
theorem dX2_weighAll_1 : decode cX2_weighAll 1 = .ok (.bipush (-9), 2) := by decide +kernel
theorem dX2_weighAll_3 : decode cX2_weighAll 3 = .ok (.putfield 25, 3) := by decide +kernel
theorem dX2_weighAll_6 : decode cX2_weighAll 6 = .ok (.aload_n 0, 1) := by decide +kernel
theorem dX2_weighAll_7 : decode cX2_weighAll 7 = .ok (.bipush (-9), 2) := by decide +kernel
theorem dX2_weighAll_9 : decode cX2_weighAll 9 = .ok (.putfield 28, 3) := by decide +kernel
theorem dX2_weighAll_12 : decode cX2_weighAll 12 = .ok (.aload_n 0, 1) := by decide +kernel
theorem dX2_weighAll_13 : decode cX2_weighAll 13 = .ok (.bipush (-9), 2) := by decide +kernel
theorem dX2_weighAll_15 : decode cX2_weighAll 15 = .ok (.putfield 31, 3) := by decide +kernel
theorem dX2_weighAll_18 : decode cX2_weighAll 18 = .ok (.aload_n 0, 1) := by decide +kernel
theorem dX2_weighAll_19 : decode cX2_weighAll 19 = .ok (.bipush (-9), 2) := by decide +kernel
theorem dX2_weighAll_21 : decode cX2_weighAll 21 = .ok (.putfield 34, 3) := by decide +kernel
theorem dX2_weighAll_24 : decode cX2_weighAll 24 = .ok (.aload_n 0, 1) := by decide +kernel
theorem dX2_weighAll_25 : decode cX2_weighAll 25 = .ok (.iconst 0, 1) := by decide +kernel
theorem dX2_weighAll_26 : decode cX2_weighAll 26 = .ok (.putfield 37, 3) := by decide +kernel
theorem dX2_weighAll_29 : decode cX2_weighAll 29 = .ok (.aload_n 0, 1) := by decide +kernel
theorem dX2_weighAll_30 : decode cX2_weighAll 30 = .ok (.getfield 9, 3) := by decide +kernel
theorem dX2_weighAll_33 : decode cX2_weighAll 33 = .ok (.iconst 0, 1) := by decide +kernel
theorem dX2_weighAll_34 : decode cX2_weighAll 34 = .ok (.invokestatic 40, 3) := by decide +kernel
theorem dX2_weighAll_37 : decode cX2_weighAll 37 = .ok (.iconst 2, 1) := by decide +kernel
theorem dX2_weighAll_38 : decode cX2_weighAll 38 = .ok (.aload_n 1, 1) := by decide +kernel
theorem dX2_weighAll_39 : decode cX2_weighAll 39 = .ok (.getfield 46, 3) := by decide +kernel
theorem dX2_weighAll_42 : decode cX2_weighAll 42 = .ok (.iadd, 1) := by decide +kernel
theorem dX2_weighAll_43 : decode cX2_weighAll 43 = .ok (.aload_n 1, 1) := by decide +kernel
theorem dX2_weighAll_44 : decode cX2_weighAll 44 = .ok (.getfield 15, 3) := by decide +kernel
theorem dX2_weighAll_47 : decode cX2_weighAll 47 = .ok (.invokestatic 49, 3) := by decide +kernel
theorem dX2_weighAll_50 : decode cX2_weighAll 50 = .ok (.istore 4, 2) := by decide +kernel
theorem dX2_weighAll_52 : decode cX2_weighAll 52 = .ok (.iconst 0, 1) := by decide +kernel
theorem dX2_weighAll_53 : decode cX2_weighAll 53 = .ok (.istore 5, 2) := by decide +kernel
theorem dX2_weighAll_55 : decode cX2_weighAll 55 = .ok (.iload 5, 2) := by decide +kernel
theorem dX2_weighAll_57 : decode cX2_weighAll 57 = .ok (.iload 4, 2) := by decide +kernel
theorem dX2_weighAll_59 : decode cX2_weighAll 59 = .ok (.if_icmp .ge 30, 3) := by decide +kernel
theorem dX2_weighAll_62 : decode cX2_weighAll 62 = .ok (.aload_n 3, 1) := by decide +kernel
theorem dX2_weighAll_63 : decode cX2_weighAll 63 = .ok (.aload_n 1, 1) := by decide +kernel
theorem dX2_weighAll_64 : decode cX2_weighAll 64 = .ok (.aload_n 2, 1) := by decide +kernel
theorem dX2_weighAll_65 : decode cX2_weighAll 65 = .ok (.aload_n 0, 1) := by decide +kernel
theorem dX2_weighAll_66 : decode cX2_weighAll 66 = .ok (.getfield 9, 3) := by decide +kernel
theorem dX2_weighAll_69 : decode cX2_weighAll 69 = .ok (.invokevirtual 53, 3) := by decide +kernel
theorem dX2_weighAll_72 : decode cX2_weighAll 72 = .ok (.aload_n 0, 1) := by decide +kernel
theorem dX2_weighAll_73 : decode cX2_weighAll 73 = .ok (.aload_n 1, 1) := by decide +kernel
theorem dX2_weighAll_74 : decode cX2_weighAll 74 = .ok (.aload_n 3, 1) := by decide +kernel
theorem dX2_weighAll_75 : decode cX2_weighAll 75 = .ok (.invokevirtual 59, 3) := by decide +kernel
theorem dX2_weighAll_78 : decode cX2_weighAll 78 = .ok (.aload_n 0, 1) := by decide +kernel
theorem dX2_weighAll_79 : decode cX2_weighAll 79 = .ok (.aload_n 1, 1) := by decide +kernel
theorem dX2_weighAll_80 : decode cX2_weighAll 80 = .ok (.invokevirtual 63, 3) := by decide +kernel
theorem dX2_weighAll_83 : decode cX2_weighAll 83 = .ok (.iinc 5 1, 3) := by decide +kernel
theorem dX2_weighAll_86 : decode cX2_weighAll 86 = .ok (.goto (-31), 3) := by decide +kernel
theorem dX2_weighAll_89 : decode cX2_weighAll 89 = .ok (.return_, 1) := by decide +kernel
theorem dX2_weigh_0 : decode cX2_weigh 0 = .ok (.aload_n 2, 1) := by decide +kernel
theorem dX2_weigh_1 : decode cX2_weigh 1 = .ok (.getfield 67, 3) := by decide +kernel
theorem dX2_weigh_4 : decode cX2_weigh 4 = .ok (.aload_n 2, 1) := by decide +kernel
theorem dX2_weigh_5 : decode cX2_weigh 5 = .ok (.getfield 70, 3) := by decide +kernel
theorem dX2_weigh_8 : decode cX2_weigh 8 = .ok (.if_icmp .ne 18, 3) := by decide +kernel
theorem dX2_weigh_11 : decode cX2_weigh 11 = .ok (.aload_n 0, 1) := by decide +kernel
theorem dX2_weigh_12 : decode cX2_weigh 12 = .ok (.aload_n 0, 1) := by decide +kernel
theorem dX2_weigh_13 : decode cX2_weigh 13 = .ok (.getfield 37, 3) := by decide +kernel
theorem dX2_weigh_16 : decode cX2_weigh 16 = .ok (.aload_n 2, 1) := by decide +kernel
theorem dX2_weigh_17 : decode cX2_weigh 17 = .ok (.getfield 70, 3) := by decide +kernel
theorem dX2_weigh_20 : decode cX2_weigh 20 = .ok (.invokestatic 73, 3) := by decide +kernel
theorem dX2_weigh_23 : decode cX2_weigh 23 = .ok (.putfield 37, 3) := by decide +kernel
theorem dX2_weigh_26 : decode cX2_weigh 26 = .ok (.aload_n 2, 1) := by decide +kernel
theorem dX2_weigh_27 : decode cX2_weigh 27 = .ok (.getfield 70, 3) := by decide +kernel
theorem dX2_weigh_30 : decode cX2_weigh 30 = .ok (.aload_n 1, 1) := by decide +kernel
theorem dX2_weigh_31 : decode cX2_weigh 31 = .ok (.getfield 78, 3) := by decide +kernel
theorem dX2_weigh_34 : decode cX2_weigh 34 = .ok (.if_icmp .ge 4, 3) := by decide +kernel
theorem dX2_weigh_37 : decode cX2_weigh 37 = .ok (.return_, 1) := by decide +kernel
theorem dX2_weigh_38 : decode cX2_weigh 38 = .ok (.aload_n 0, 1) := by decide +kernel
theorem dX2_weigh_39 : decode cX2_weigh 39 = .ok (.aload_n 1, 1) := by decide +kernel
theorem dX2_weigh_40 : decode cX2_weigh 40 = .ok (.invokevirtual 81, 3) := by decide +kernel
theorem dX2_weigh_43 : decode cX2_weigh 43 = .ok (.istore_n 3, 1) := by decide +kernel
theorem dX2_weigh_44 : decode cX2_weigh 44 = .ok (.aload_n 0, 1) := by decide +kernel
theorem dX2_weigh_45 : decode cX2_weigh 45 = .ok (.getfield 34, 3) := by decide +kernel
theorem dX2_weigh_48 : decode cX2_weigh 48 = .ok (.bipush (-9), 2) := by decide +kernel
theorem dX2_weigh_50 : decode cX2_weigh 50 = .ok (.if_icmp .eq 11, 3) := by decide +kernel
theorem dX2_weigh_53 : decode cX2_weigh 53 = .ok (.iload_n 3, 1) := by decide +kernel
theorem dX2_weigh_54 : decode cX2_weigh 54 = .ok (.aload_n 0, 1) := by decide +kernel
theorem dX2_weigh_55 : decode cX2_weigh 55 = .ok (.getfield 34, 3) := by decide +kernel
theorem dX2_weigh_58 : decode cX2_weigh 58 = .ok (.if_icmp .ge 8, 3) := by decide +kernel
theorem dX2_weigh_61 : decode cX2_weigh 61 = .ok (.aload_n 0, 1) := by decide +kernel
theorem dX2_weigh_62 : decode cX2_weigh 62 = .ok (.iload_n 3, 1) := by decide +kernel
theorem dX2_weigh_63 : decode cX2_weigh 63 = .ok (.putfield 34, 3) := by decide +kernel
theorem dX2_weigh_66 : decode cX2_weigh 66 = .ok (.aload_n 2, 1) := by decide +kernel
theorem dX2_weigh_67 : decode cX2_weigh 67 = .ok (.getfield 67, 3) := by decide +kernel
theorem dX2_weigh_70 : decode cX2_weigh 70 = .ok (.aload_n 0, 1) := by decide +kernel
theorem dX2_weigh_71 : decode cX2_weigh 71 = .ok (.getfield 28, 3) := by decide +kernel
theorem dX2_weigh_74 : decode cX2_weigh 74 = .ok (.if_icmp .gt 22, 3) := by decide +kernel
theorem dX2_weigh_77 : decode cX2_weigh 77 = .ok (.aload_n 2, 1) := by decide +kernel
theorem dX2_weigh_78 : decode cX2_weigh 78 = .ok (.getfield 67, 3) := by decide +kernel
theorem dX2_weigh_81 : decode cX2_weigh 81 = .ok (.aload_n 0, 1) := by decide +kernel
theorem dX2_weigh_82 : decode cX2_weigh 82 = .ok (.getfield 28, 3) := by decide +kernel
theorem dX2_weigh_85 : decode cX2_weigh 85 = .ok (.if_icmp .ne 33, 3) := by decide +kernel
theorem dX2_weigh_88 : decode cX2_weigh 88 = .ok (.iload_n 3, 1) := by decide +kernel
theorem dX2_weigh_89 : decode cX2_weigh 89 = .ok (.aload_n 0, 1) := by decide +kernel
theorem dX2_weigh_90 : decode cX2_weigh 90 = .ok (.getfield 31, 3) := by decide +kernel
theorem dX2_weigh_93 : decode cX2_weigh 93 = .ok (.if_icmp .ge 25, 3) := by decide +kernel
theorem dX2_weigh_96 : decode cX2_weigh 96 = .ok (.aload_n 0, 1) := by decide +kernel
theorem dX2_weigh_97 : decode cX2_weigh 97 = .ok (.aload_n 2, 1) := by decide +kernel
theorem dX2_weigh_98 : decode cX2_weigh 98 = .ok (.getfield 67, 3) := by decide +kernel
theorem dX2_weigh_101 : decode cX2_weigh 101 = .ok (.putfield 28, 3) := by decide +kernel
theorem dX2_weigh_104 : decode cX2_weigh 104 = .ok (.aload_n 0, 1) := by decide +kernel
theorem dX2_weigh_105 : decode cX2_weigh 105 = .ok (.iload_n 3, 1) := by decide +kernel
theorem dX2_weigh_106 : decode cX2_weigh 106 = .ok (.putfield 31, 3) := by decide +kernel
theorem dX2_weigh_109 : decode cX2_weigh 109 = .ok (.aload_n 0, 1) := by decide +kernel
theorem dX2_weigh_110 : decode cX2_weigh 110 = .ok (.aload_n 0, 1) := by decide +kernel
theorem dX2_weigh_111 : decode cX2_weigh 111 = .ok (.aload_n 1, 1) := by decide +kernel
theorem dX2_weigh_112 : decode cX2_weigh 112 = .ok (.invokevirtual 85, 3) := by decide +kernel
theorem dX2_weigh_115 : decode cX2_weigh 115 = .ok (.putfield 25, 3) := by decide +kernel
theorem dX2_weigh_118 : decode cX2_weigh 118 = .ok (.return_, 1) := by decide +kernel
theorem dX2_stepToNext_0 : decode cX2_stepToNext 0 = .ok (.aload_n 1, 1) := by decide +kernel
theorem dX2_stepToNext_1 : decode cX2_stepToNext 1 = .ok (.getfield 15, 3) := by decide +kernel
theorem dX2_stepToNext_4 : decode cX2_stepToNext 4 = .ok (.iconst 1, 1) := by decide +kernel
theorem dX2_stepToNext_5 : decode cX2_stepToNext 5 = .ok (.isub, 1) := by decide +kernel
theorem dX2_stepToNext_6 : decode cX2_stepToNext 6 = .ok (.istore_n 2, 1) := by decide +kernel
theorem dX2_stepToNext_7 : decode cX2_stepToNext 7 = .ok (.iload_n 2, 1) := by decide +kernel
theorem dX2_stepToNext_8 : decode cX2_stepToNext 8 = .ok (.ifCond .lt 40, 3) := by decide +kernel
theorem dX2_stepToNext_11 : decode cX2_stepToNext 11 = .ok (.aload_n 0, 1) := by decide +kernel
theorem dX2_stepToNext_12 : decode cX2_stepToNext 12 = .ok (.getfield 9, 3) := by decide +kernel
theorem dX2_stepToNext_15 : decode cX2_stepToNext 15 = .ok (.iload_n 2, 1) := by decide +kernel
theorem dX2_stepToNext_16 : decode cX2_stepToNext 16 = .ok (.dup2, 1) := by decide +kernel
theorem dX2_stepToNext_17 : decode cX2_stepToNext 17 = .ok (.iaload, 1) := by decide +kernel
theorem dX2_stepToNext_18 : decode cX2_stepToNext 18 = .ok (.iconst 1, 1) := by decide +kernel
theorem dX2_stepToNext_19 : decode cX2_stepToNext 19 = .ok (.iadd, 1) := by decide +kernel
theorem dX2_stepToNext_20 : decode cX2_stepToNext 20 = .ok (.iastore, 1) := by decide +kernel
theorem dX2_stepToNext_21 : decode cX2_stepToNext 21 = .ok (.aload_n 1, 1) := by decide +kernel
theorem dX2_stepToNext_22 : decode cX2_stepToNext 22 = .ok (.aload_n 0, 1) := by decide +kernel
theorem dX2_stepToNext_23 : decode cX2_stepToNext 23 = .ok (.getfield 9, 3) := by decide +kernel
theorem dX2_stepToNext_26 : decode cX2_stepToNext 26 = .ok (.iload_n 2, 1) := by decide +kernel
theorem dX2_stepToNext_27 : decode cX2_stepToNext 27 = .ok (.iaload, 1) := by decide +kernel
theorem dX2_stepToNext_28 : decode cX2_stepToNext 28 = .ok (.invokevirtual 21, 3) := by decide +kernel
theorem dX2_stepToNext_31 : decode cX2_stepToNext 31 = .ok (.ifCond .eq 4, 3) := by decide +kernel
theorem dX2_stepToNext_34 : decode cX2_stepToNext 34 = .ok (.return_, 1) := by decide +kernel
theorem dX2_stepToNext_35 : decode cX2_stepToNext 35 = .ok (.aload_n 0, 1) := by decide +kernel
theorem dX2_stepToNext_36 : decode cX2_stepToNext 36 = .ok (.getfield 9, 3) := by decide +kernel
theorem dX2_stepToNext_39 : decode cX2_stepToNext 39 = .ok (.iload_n 2, 1) := by decide +kernel
theorem dX2_stepToNext_40 : decode cX2_stepToNext 40 = .ok (.iconst 0, 1) := by decide +kernel
theorem dX2_stepToNext_41 : decode cX2_stepToNext 41 = .ok (.iastore, 1) := by decide +kernel
theorem dX2_stepToNext_42 : decode cX2_stepToNext 42 = .ok (.iinc 2 (-1), 3) := by decide +kernel
theorem dX2_stepToNext_45 : decode cX2_stepToNext 45 = .ok (.goto (-38), 3) := by decide +kernel
theorem dX2_stepToNext_48 : decode cX2_stepToNext 48 = .ok (.return_, 1) := by decide +kernel
theorem dX2_busyHands_0 : decode cX2_busyHands 0 = .ok (.iconst 0, 1) := by decide +kernel
theorem dX2_busyHands_1 : decode cX2_busyHands 1 = .ok (.istore_n 2, 1) := by decide +kernel
theorem dX2_busyHands_2 : decode cX2_busyHands 2 = .ok (.iconst 0, 1) := by decide +kernel
theorem dX2_busyHands_3 : decode cX2_busyHands 3 = .ok (.istore_n 3, 1) := by decide +kernel
theorem dX2_busyHands_4 : decode cX2_busyHands 4 = .ok (.iload_n 3, 1) := by decide +kernel
theorem dX2_busyHands_5 : decode cX2_busyHands 5 = .ok (.aload_n 1, 1) := by decide +kernel
theorem dX2_busyHands_6 : decode cX2_busyHands 6 = .ok (.getfield 15, 3) := by decide +kernel
theorem dX2_busyHands_9 : decode cX2_busyHands 9 = .ok (.if_icmp .ge 21, 3) := by decide +kernel
theorem dX2_busyHands_12 : decode cX2_busyHands 12 = .ok (.aload_n 0, 1) := by decide +kernel
theorem dX2_busyHands_13 : decode cX2_busyHands 13 = .ok (.getfield 9, 3) := by decide +kernel
theorem dX2_busyHands_16 : decode cX2_busyHands 16 = .ok (.iload_n 3, 1) := by decide +kernel
theorem dX2_busyHands_17 : decode cX2_busyHands 17 = .ok (.iaload, 1) := by decide +kernel
theorem dX2_busyHands_18 : decode cX2_busyHands 18 = .ok (.ifCond .eq 6, 3) := by decide +kernel
theorem dX2_busyHands_21 : decode cX2_busyHands 21 = .ok (.iinc 2 1, 3) := by decide +kernel
theorem dX2_busyHands_24 : decode cX2_busyHands 24 = .ok (.iinc 3 1, 3) := by decide +kernel
theorem dX2_busyHands_27 : decode cX2_busyHands 27 = .ok (.goto (-23), 3) := by decide +kernel
theorem dX2_busyHands_30 : decode cX2_busyHands 30 = .ok (.iload_n 2, 1) := by decide +kernel
theorem dX2_busyHands_31 : decode cX2_busyHands 31 = .ok (.ireturn, 1) := by decide +kernel
theorem dX2_figures_0 : decode cX2_figures 0 = .ok (.iconst 0, 1) := by decide +kernel
theorem dX2_figures_1 : decode cX2_figures 1 = .ok (.istore_n 2, 1) := by decide +kernel
theorem dX2_figures_2 : decode cX2_figures 2 = .ok (.iconst 0, 1) := by decide +kernel
theorem dX2_figures_3 : decode cX2_figures 3 = .ok (.istore_n 3, 1) := by decide +kernel
theorem dX2_figures_4 : decode cX2_figures 4 = .ok (.iload_n 3, 1) := by decide +kernel
theorem dX2_figures_5 : decode cX2_figures 5 = .ok (.aload_n 1, 1) := by decide +kernel
theorem dX2_figures_6 : decode cX2_figures 6 = .ok (.getfield 15, 3) := by decide +kernel
theorem dX2_figures_9 : decode cX2_figures 9 = .ok (.if_icmp .ge 21, 3) := by decide +kernel
theorem dX2_figures_12 : decode cX2_figures 12 = .ok (.bipush 10, 2) := by decide +kernel
theorem dX2_figures_14 : decode cX2_figures 14 = .ok (.iload_n 2, 1) := by decide +kernel
theorem dX2_figures_15 : decode cX2_figures 15 = .ok (.imul, 1) := by decide +kernel
theorem dX2_figures_16 : decode cX2_figures 16 = .ok (.aload_n 0, 1) := by decide +kernel
theorem dX2_figures_17 : decode cX2_figures 17 = .ok (.getfield 9, 3) := by decide +kernel
theorem dX2_figures_20 : decode cX2_figures 20 = .ok (.iload_n 3, 1) := by decide +kernel
theorem dX2_figures_21 : decode cX2_figures 21 = .ok (.iaload, 1) := by decide +kernel
theorem dX2_figures_22 : decode cX2_figures 22 = .ok (.iadd, 1) := by decide +kernel
theorem dX2_figures_23 : decode cX2_figures 23 = .ok (.istore_n 2, 1) := by decide +kernel
theorem dX2_figures_24 : decode cX2_figures 24 = .ok (.iinc 3 1, 3) := by decide +kernel
theorem dX2_figures_27 : decode cX2_figures 27 = .ok (.goto (-23), 3) := by decide +kernel
theorem dX2_figures_30 : decode cX2_figures 30 = .ok (.iload_n 2, 1) := by decide +kernel
theorem dX2_figures_31 : decode cX2_figures 31 = .ok (.ireturn, 1) := by decide +kernel
theorem dX3_init_0 : decode cX3_init 0 = .ok (.aload_n 0, 1) := by decide +kernel
theorem dX3_init_1 : decode cX3_init 1 = .ok (.invokespecial 3, 3) := by decide +kernel
theorem dX3_init_4 : decode cX3_init 4 = .ok (.aload_n 0, 1) := by decide +kernel
theorem dX3_init_5 : decode cX3_init 5 = .ok (.bipush 6, 2) := by decide +kernel
theorem dX3_init_7 : decode cX3_init 7 = .ok (.newarray .int, 2) := by decide +kernel
theorem dX3_init_9 : decode cX3_init 9 = .ok (.putfield 9, 3) := by decide +kernel
theorem dX3_init_12 : decode cX3_init 12 = .ok (.aload_n 0, 1) := by decide +kernel
theorem dX3_init_13 : decode cX3_init 13 = .ok (.bipush 6, 2) := by decide +kernel
theorem dX3_init_15 : decode cX3_init 15 = .ok (.newarray .int, 2) := by decide +kernel
theorem dX3_init_17 : decode cX3_init 17 = .ok (.putfield 15, 3) := by decide +kernel
theorem dX3_init_20 : decode cX3_init 20 = .ok (.aload_n 0, 1) := by decide +kernel
theorem dX3_init_21 : decode cX3_init 21 = .ok (.bipush 6, 2) := by decide +kernel
theorem dX3_init_23 : decode cX3_init 23 = .ok (.newarray .int, 2) := by decide +kernel
theorem dX3_init_25 : decode cX3_init 25 = .ok (.putfield 18, 3) := by decide +kernel
theorem dX3_init_28 : decode cX3_init 28 = .ok (.return_, 1) := by decide +kernel
theorem dX3_add_0 : decode cX3_add 0 = .ok (.aload_n 0, 1) := by decide +kernel
theorem dX3_add_1 : decode cX3_add 1 = .ok (.getfield 21, 3) := by decide +kernel
theorem dX3_add_4 : decode cX3_add 4 = .ok (.bipush 6, 2) := by decide +kernel
theorem dX3_add_6 : decode cX3_add 6 = .ok (.if_icmp .lt 5, 3) := by decide +kernel
theorem dX3_add_9 : decode cX3_add 9 = .ok (.iconst 0, 1) := by decide +kernel
theorem dX3_add_10 : decode cX3_add 10 = .ok (.ireturn, 1) := by decide +kernel
theorem dX3_add_11 : decode cX3_add 11 = .ok (.aload_n 0, 1) := by decide +kernel
theorem dX3_add_12 : decode cX3_add 12 = .ok (.getfield 9, 3) := by decide +kernel
theorem dX3_add_15 : decode cX3_add 15 = .ok (.aload_n 0, 1) := by decide +kernel
theorem dX3_add_16 : decode cX3_add 16 = .ok (.getfield 21, 3) := by decide +kernel
theorem dX3_add_19 : decode cX3_add 19 = .ok (.iload_n 1, 1) := by decide +kernel
theorem dX3_add_20 : decode cX3_add 20 = .ok (.iastore, 1) := by decide +kernel
theorem dX3_add_21 : decode cX3_add 21 = .ok (.aload_n 0, 1) := by decide +kernel
theorem dX3_add_22 : decode cX3_add 22 = .ok (.getfield 15, 3) := by decide +kernel
theorem dX3_add_25 : decode cX3_add 25 = .ok (.aload_n 0, 1) := by decide +kernel
theorem dX3_add_26 : decode cX3_add 26 = .ok (.getfield 21, 3) := by decide +kernel
theorem dX3_add_29 : decode cX3_add 29 = .ok (.iload_n 2, 1) := by decide +kernel
theorem dX3_add_30 : decode cX3_add 30 = .ok (.iastore, 1) := by decide +kernel
theorem dX3_add_31 : decode cX3_add 31 = .ok (.aload_n 0, 1) := by decide +kernel
theorem dX3_add_32 : decode cX3_add 32 = .ok (.getfield 18, 3) := by decide +kernel
theorem dX3_add_35 : decode cX3_add 35 = .ok (.aload_n 0, 1) := by decide +kernel
theorem dX3_add_36 : decode cX3_add 36 = .ok (.getfield 21, 3) := by decide +kernel
theorem dX3_add_39 : decode cX3_add 39 = .ok (.iload_n 3, 1) := by decide +kernel
theorem dX3_add_40 : decode cX3_add 40 = .ok (.iastore, 1) := by decide +kernel
theorem dX3_add_41 : decode cX3_add 41 = .ok (.aload_n 0, 1) := by decide +kernel
theorem dX3_add_42 : decode cX3_add 42 = .ok (.dup, 1) := by decide +kernel
theorem dX3_add_43 : decode cX3_add 43 = .ok (.getfield 21, 3) := by decide +kernel
theorem dX3_add_46 : decode cX3_add 46 = .ok (.iconst 1, 1) := by decide +kernel
theorem dX3_add_47 : decode cX3_add 47 = .ok (.iadd, 1) := by decide +kernel
theorem dX3_add_48 : decode cX3_add 48 = .ok (.putfield 21, 3) := by decide +kernel
theorem dX3_add_51 : decode cX3_add 51 = .ok (.iconst 1, 1) := by decide +kernel
theorem dX3_add_52 : decode cX3_add 52 = .ok (.ireturn, 1) := by decide +kernel
theorem dX3_agreeWith_0 : decode cX3_agreeWith 0 = .ok (.iconst 0, 1) := by decide +kernel
theorem dX3_agreeWith_1 : decode cX3_agreeWith 1 = .ok (.istore_n 2, 1) := by decide +kernel
theorem dX3_agreeWith_2 : decode cX3_agreeWith 2 = .ok (.iload_n 2, 1) := by decide +kernel
theorem dX3_agreeWith_3 : decode cX3_agreeWith 3 = .ok (.aload_n 0, 1) := by decide +kernel
theorem dX3_agreeWith_4 : decode cX3_agreeWith 4 = .ok (.getfield 21, 3) := by decide +kernel
theorem dX3_agreeWith_7 : decode cX3_agreeWith 7 = .ok (.if_icmp .ge 41, 3) := by decide +kernel
theorem dX3_agreeWith_10 : decode cX3_agreeWith 10 = .ok (.iload_n 1, 1) := by decide +kernel
theorem dX3_agreeWith_11 : decode cX3_agreeWith 11 = .ok (.aload_n 0, 1) := by decide +kernel
theorem dX3_agreeWith_12 : decode cX3_agreeWith 12 = .ok (.getfield 9, 3) := by decide +kernel
theorem dX3_agreeWith_15 : decode cX3_agreeWith 15 = .ok (.iload_n 2, 1) := by decide +kernel
theorem dX3_agreeWith_16 : decode cX3_agreeWith 16 = .ok (.iaload, 1) := by decide +kernel
theorem dX3_agreeWith_17 : decode cX3_agreeWith 17 = .ok (.invokestatic 25, 3) := by decide +kernel
theorem dX3_agreeWith_20 : decode cX3_agreeWith 20 = .ok (.istore_n 3, 1) := by decide +kernel
theorem dX3_agreeWith_21 : decode cX3_agreeWith 21 = .ok (.iload_n 3, 1) := by decide +kernel
theorem dX3_agreeWith_22 : decode cX3_agreeWith 22 = .ok (.aload_n 0, 1) := by decide +kernel
theorem dX3_agreeWith_23 : decode cX3_agreeWith 23 = .ok (.getfield 15, 3) := by decide +kernel
theorem dX3_agreeWith_26 : decode cX3_agreeWith 26 = .ok (.iload_n 2, 1) := by decide +kernel
theorem dX3_agreeWith_27 : decode cX3_agreeWith 27 = .ok (.iaload, 1) := by decide +kernel
theorem dX3_agreeWith_28 : decode cX3_agreeWith 28 = .ok (.invokestatic 31, 3) := by decide +kernel
theorem dX3_agreeWith_31 : decode cX3_agreeWith 31 = .ok (.aload_n 0, 1) := by decide +kernel
theorem dX3_agreeWith_32 : decode cX3_agreeWith 32 = .ok (.getfield 18, 3) := by decide +kernel
theorem dX3_agreeWith_35 : decode cX3_agreeWith 35 = .ok (.iload_n 2, 1) := by decide +kernel
theorem dX3_agreeWith_36 : decode cX3_agreeWith 36 = .ok (.iaload, 1) := by decide +kernel
theorem dX3_agreeWith_37 : decode cX3_agreeWith 37 = .ok (.if_icmp .eq 5, 3) := by decide +kernel
theorem dX3_agreeWith_40 : decode cX3_agreeWith 40 = .ok (.iconst 0, 1) := by decide +kernel
theorem dX3_agreeWith_41 : decode cX3_agreeWith 41 = .ok (.ireturn, 1) := by decide +kernel
theorem dX3_agreeWith_42 : decode cX3_agreeWith 42 = .ok (.iinc 2 1, 3) := by decide +kernel
theorem dX3_agreeWith_45 : decode cX3_agreeWith 45 = .ok (.goto (-43), 3) := by decide +kernel
theorem dX3_agreeWith_48 : decode cX3_agreeWith 48 = .ok (.iconst 1, 1) := by decide +kernel
theorem dX3_agreeWith_49 : decode cX3_agreeWith 49 = .ok (.ireturn, 1) := by decide +kernel
theorem dX4_init_0 : decode cX4_init 0 = .ok (.aload_n 0, 1) := by decide +kernel
theorem dX4_init_1 : decode cX4_init 1 = .ok (.invokespecial 3, 3) := by decide +kernel
theorem dX4_init_4 : decode cX4_init 4 = .ok (.aload_n 0, 1) := by decide +kernel
theorem dX4_init_5 : decode cX4_init 5 = .ok (.iconst 2, 1) := by decide +kernel
theorem dX4_init_6 : decode cX4_init 6 = .ok (.anewarray 9, 3) := by decide +kernel
theorem dX4_init_9 : decode cX4_init 9 = .ok (.putfield 11, 3) := by decide +kernel
theorem dX4_init_12 : decode cX4_init 12 = .ok (.aload_n 0, 1) := by decide +kernel
theorem dX4_init_13 : decode cX4_init 13 = .ok (.iconst 2, 1) := by decide +kernel
theorem dX4_init_14 : decode cX4_init 14 = .ok (.newarray .boolean, 2) := by decide +kernel
theorem dX4_init_16 : decode cX4_init 16 = .ok (.putfield 17, 3) := by decide +kernel
theorem dX4_init_19 : decode cX4_init 19 = .ok (.iconst 0, 1) := by decide +kernel
theorem dX4_init_20 : decode cX4_init 20 = .ok (.istore_n 1, 1) := by decide +kernel
theorem dX4_init_21 : decode cX4_init 21 = .ok (.iload_n 1, 1) := by decide +kernel
theorem dX4_init_22 : decode cX4_init 22 = .ok (.iconst 2, 1) := by decide +kernel
theorem dX4_init_23 : decode cX4_init 23 = .ok (.if_icmp .ge 22, 3) := by decide +kernel
theorem dX4_init_26 : decode cX4_init 26 = .ok (.aload_n 0, 1) := by decide +kernel
theorem dX4_init_27 : decode cX4_init 27 = .ok (.getfield 11, 3) := by decide +kernel
theorem dX4_init_30 : decode cX4_init 30 = .ok (.iload_n 1, 1) := by decide +kernel
theorem dX4_init_31 : decode cX4_init 31 = .ok (.new 9, 3) := by decide +kernel
theorem dX4_init_34 : decode cX4_init 34 = .ok (.dup, 1) := by decide +kernel
theorem dX4_init_35 : decode cX4_init 35 = .ok (.invokespecial 21, 3) := by decide +kernel
theorem dX4_init_38 : decode cX4_init 38 = .ok (.aastore, 1) := by decide +kernel
theorem dX4_init_39 : decode cX4_init 39 = .ok (.iinc 1 1, 3) := by decide +kernel
theorem dX4_init_42 : decode cX4_init 42 = .ok (.goto (-21), 3) := by decide +kernel
theorem dX4_init_45 : decode cX4_init 45 = .ok (.return_, 1) := by decide +kernel
theorem dX4_has_0 : decode cX4_has 0 = .ok (.iload_n 1, 1) := by decide +kernel
theorem dX4_has_1 : decode cX4_has 1 = .ok (.ifCond .lt 12, 3) := by decide +kernel
theorem dX4_has_4 : decode cX4_has 4 = .ok (.iload_n 1, 1) := by decide +kernel
theorem dX4_has_5 : decode cX4_has 5 = .ok (.iconst 2, 1) := by decide +kernel
theorem dX4_has_6 : decode cX4_has 6 = .ok (.if_icmp .ge 7, 3) := by decide +kernel
theorem dX4_has_9 : decode cX4_has 9 = .ok (.iconst 1, 1) := by decide +kernel
theorem dX4_has_10 : decode cX4_has 10 = .ok (.goto 4, 3) := by decide +kernel
theorem dX4_has_13 : decode cX4_has 13 = .ok (.iconst 0, 1) := by decide +kernel
theorem dX4_has_14 : decode cX4_has 14 = .ok (.ireturn, 1) := by decide +kernel
theorem dX4_forgetAll_0 : decode cX4_forgetAll 0 = .ok (.iconst 0, 1) := by decide +kernel
theorem dX4_forgetAll_1 : decode cX4_forgetAll 1 = .ok (.istore_n 1, 1) := by decide +kernel
theorem dX4_forgetAll_2 : decode cX4_forgetAll 2 = .ok (.iload_n 1, 1) := by decide +kernel
theorem dX4_forgetAll_3 : decode cX4_forgetAll 3 = .ok (.iconst 2, 1) := by decide +kernel
theorem dX4_forgetAll_4 : decode cX4_forgetAll 4 = .ok (.if_icmp .ge 16, 3) := by decide +kernel
theorem dX4_forgetAll_7 : decode cX4_forgetAll 7 = .ok (.aload_n 0, 1) := by decide +kernel
theorem dX4_forgetAll_8 : decode cX4_forgetAll 8 = .ok (.getfield 17, 3) := by decide +kernel
theorem dX4_forgetAll_11 : decode cX4_forgetAll 11 = .ok (.iload_n 1, 1) := by decide +kernel
theorem dX4_forgetAll_12 : decode cX4_forgetAll 12 = .ok (.iconst 0, 1) := by decide +kernel
theorem dX4_forgetAll_13 : decode cX4_forgetAll 13 = .ok (.bastore, 1) := by decide +kernel
theorem dX4_forgetAll_14 : decode cX4_forgetAll 14 = .ok (.iinc 1 1, 3) := by decide +kernel
theorem dX4_forgetAll_17 : decode cX4_forgetAll 17 = .ok (.goto (-15), 3) := by decide +kernel
theorem dX4_forgetAll_20 : decode cX4_forgetAll 20 = .ok (.return_, 1) := by decide +kernel
theorem dX4_store_0 : decode cX4_store 0 = .ok (.aload_n 0, 1) := by decide +kernel
theorem dX4_store_1 : decode cX4_store 1 = .ok (.iload_n 1, 1) := by decide +kernel
theorem dX4_store_2 : decode cX4_store 2 = .ok (.invokevirtual 22, 3) := by decide +kernel
theorem dX4_store_5 : decode cX4_store 5 = .ok (.ifCond .eq 20, 3) := by decide +kernel
theorem dX4_store_8 : decode cX4_store 8 = .ok (.aload_n 2, 1) := by decide +kernel
theorem dX4_store_9 : decode cX4_store 9 = .ok (.aload_n 0, 1) := by decide +kernel
theorem dX4_store_10 : decode cX4_store 10 = .ok (.getfield 11, 3) := by decide +kernel
theorem dX4_store_13 : decode cX4_store 13 = .ok (.iload_n 1, 1) := by decide +kernel
theorem dX4_store_14 : decode cX4_store 14 = .ok (.aaload, 1) := by decide +kernel
theorem dX4_store_15 : decode cX4_store 15 = .ok (.invokestatic 26, 3) := by decide +kernel
theorem dX4_store_18 : decode cX4_store 18 = .ok (.aload_n 0, 1) := by decide +kernel
theorem dX4_store_19 : decode cX4_store 19 = .ok (.getfield 17, 3) := by decide +kernel
theorem dX4_store_22 : decode cX4_store 22 = .ok (.iload_n 1, 1) := by decide +kernel
theorem dX4_store_23 : decode cX4_store 23 = .ok (.iconst 1, 1) := by decide +kernel
theorem dX4_store_24 : decode cX4_store 24 = .ok (.bastore, 1) := by decide +kernel
theorem dX4_store_25 : decode cX4_store 25 = .ok (.return_, 1) := by decide +kernel
theorem dX4_bringBack_0 : decode cX4_bringBack 0 = .ok (.aload_n 0, 1) := by decide +kernel
theorem dX4_bringBack_1 : decode cX4_bringBack 1 = .ok (.iload_n 1, 1) := by decide +kernel
theorem dX4_bringBack_2 : decode cX4_bringBack 2 = .ok (.invokevirtual 22, 3) := by decide +kernel
theorem dX4_bringBack_5 : decode cX4_bringBack 5 = .ok (.ifCond .eq 22, 3) := by decide +kernel
theorem dX4_bringBack_8 : decode cX4_bringBack 8 = .ok (.aload_n 0, 1) := by decide +kernel
theorem dX4_bringBack_9 : decode cX4_bringBack 9 = .ok (.getfield 17, 3) := by decide +kernel
theorem dX4_bringBack_12 : decode cX4_bringBack 12 = .ok (.iload_n 1, 1) := by decide +kernel
theorem dX4_bringBack_13 : decode cX4_bringBack 13 = .ok (.baload, 1) := by decide +kernel
theorem dX4_bringBack_14 : decode cX4_bringBack 14 = .ok (.ifCond .eq 13, 3) := by decide +kernel
theorem dX4_bringBack_17 : decode cX4_bringBack 17 = .ok (.aload_n 0, 1) := by decide +kernel
theorem dX4_bringBack_18 : decode cX4_bringBack 18 = .ok (.getfield 11, 3) := by decide +kernel
theorem dX4_bringBack_21 : decode cX4_bringBack 21 = .ok (.iload_n 1, 1) := by decide +kernel
theorem dX4_bringBack_22 : decode cX4_bringBack 22 = .ok (.aaload, 1) := by decide +kernel
theorem dX4_bringBack_23 : decode cX4_bringBack 23 = .ok (.aload_n 2, 1) := by decide +kernel
theorem dX4_bringBack_24 : decode cX4_bringBack 24 = .ok (.invokestatic 26, 3) := by decide +kernel
theorem dX4_bringBack_27 : decode cX4_bringBack 27 = .ok (.return_, 1) := by decide +kernel
theorem dX5_init_0 : decode cX5_init 0 = .ok (.aload_n 0, 1) := by decide +kernel
theorem dX5_init_1 : decode cX5_init 1 = .ok (.invokespecial 3, 3) := by decide +kernel
theorem dX5_init_4 : decode cX5_init 4 = .ok (.aload_n 0, 1) := by decide +kernel
theorem dX5_init_5 : decode cX5_init 5 = .ok (.iconst 5, 1) := by decide +kernel
theorem dX5_init_6 : decode cX5_init 6 = .ok (.newarray .int, 2) := by decide +kernel
theorem dX5_init_8 : decode cX5_init 8 = .ok (.putfield 9, 3) := by decide +kernel
theorem dX5_init_11 : decode cX5_init 11 = .ok (.aload_n 0, 1) := by decide +kernel
theorem dX5_init_12 : decode cX5_init 12 = .ok (.iconst 3, 1) := by decide +kernel
theorem dX5_init_13 : decode cX5_init 13 = .ok (.newarray .int, 2) := by decide +kernel
theorem dX5_init_15 : decode cX5_init 15 = .ok (.putfield 15, 3) := by decide +kernel
theorem dX5_init_18 : decode cX5_init 18 = .ok (.aload_n 0, 1) := by decide +kernel
theorem dX5_init_19 : decode cX5_init 19 = .ok (.iconst 1, 1) := by decide +kernel
theorem dX5_init_20 : decode cX5_init 20 = .ok (.putfield 20, 3) := by decide +kernel
theorem dX5_init_23 : decode cX5_init 23 = .ok (.return_, 1) := by decide +kernel
theorem dX5_beginAnew_0 : decode cX5_beginAnew 0 = .ok (.aload_n 0, 1) := by decide +kernel
theorem dX5_beginAnew_1 : decode cX5_beginAnew 1 = .ok (.getfield 9, 3) := by decide +kernel
theorem dX5_beginAnew_4 : decode cX5_beginAnew 4 = .ok (.iconst 0, 1) := by decide +kernel
theorem dX5_beginAnew_5 : decode cX5_beginAnew 5 = .ok (.invokestatic 24, 3) := by decide +kernel
theorem dX5_beginAnew_8 : decode cX5_beginAnew 8 = .ok (.aload_n 1, 1) := by decide +kernel
theorem dX5_beginAnew_9 : decode cX5_beginAnew 9 = .ok (.getfield 30, 3) := by decide +kernel
theorem dX5_beginAnew_12 : decode cX5_beginAnew 12 = .ok (.iconst 0, 1) := by decide +kernel
theorem dX5_beginAnew_13 : decode cX5_beginAnew 13 = .ok (.aload_n 0, 1) := by decide +kernel
theorem dX5_beginAnew_14 : decode cX5_beginAnew 14 = .ok (.getfield 15, 3) := by decide +kernel
theorem dX5_beginAnew_17 : decode cX5_beginAnew 17 = .ok (.iconst 0, 1) := by decide +kernel
theorem dX5_beginAnew_18 : decode cX5_beginAnew 18 = .ok (.iconst 3, 1) := by decide +kernel
theorem dX5_beginAnew_19 : decode cX5_beginAnew 19 = .ok (.invokestatic 35, 3) := by decide +kernel
theorem dX5_beginAnew_22 : decode cX5_beginAnew 22 = .ok (.aload_n 0, 1) := by decide +kernel
theorem dX5_beginAnew_23 : decode cX5_beginAnew 23 = .ok (.iconst 0, 1) := by decide +kernel
theorem dX5_beginAnew_24 : decode cX5_beginAnew 24 = .ok (.putfield 41, 3) := by decide +kernel
theorem dX5_beginAnew_27 : decode cX5_beginAnew 27 = .ok (.aload_n 0, 1) := by decide +kernel
theorem dX5_beginAnew_28 : decode cX5_beginAnew 28 = .ok (.iconst 0, 1) := by decide +kernel
theorem dX5_beginAnew_29 : decode cX5_beginAnew 29 = .ok (.putfield 44, 3) := by decide +kernel
theorem dX5_beginAnew_32 : decode cX5_beginAnew 32 = .ok (.aload_n 0, 1) := by decide +kernel
theorem dX5_beginAnew_33 : decode cX5_beginAnew 33 = .ok (.iconst 0, 1) := by decide +kernel
theorem dX5_beginAnew_34 : decode cX5_beginAnew 34 = .ok (.putfield 47, 3) := by decide +kernel
theorem dX5_beginAnew_37 : decode cX5_beginAnew 37 = .ok (.aload_n 0, 1) := by decide +kernel
theorem dX5_beginAnew_38 : decode cX5_beginAnew 38 = .ok (.iconst 0, 1) := by decide +kernel
theorem dX5_beginAnew_39 : decode cX5_beginAnew 39 = .ok (.putfield 50, 3) := by decide +kernel
theorem dX5_beginAnew_42 : decode cX5_beginAnew 42 = .ok (.aload_n 0, 1) := by decide +kernel
theorem dX5_beginAnew_43 : decode cX5_beginAnew 43 = .ok (.iconst 1, 1) := by decide +kernel
theorem dX5_beginAnew_44 : decode cX5_beginAnew 44 = .ok (.putfield 20, 3) := by decide +kernel
theorem dX5_beginAnew_47 : decode cX5_beginAnew 47 = .ok (.aload_n 0, 1) := by decide +kernel
theorem dX5_beginAnew_48 : decode cX5_beginAnew 48 = .ok (.iconst 0, 1) := by decide +kernel
theorem dX5_beginAnew_49 : decode cX5_beginAnew 49 = .ok (.putfield 53, 3) := by decide +kernel
theorem dX5_beginAnew_52 : decode cX5_beginAnew 52 = .ok (.aload_n 0, 1) := by decide +kernel
theorem dX5_beginAnew_53 : decode cX5_beginAnew 53 = .ok (.iconst 0, 1) := by decide +kernel
theorem dX5_beginAnew_54 : decode cX5_beginAnew 54 = .ok (.putfield 56, 3) := by decide +kernel
theorem dX5_beginAnew_57 : decode cX5_beginAnew 57 = .ok (.return_, 1) := by decide +kernel
theorem dX5_copy_0 : decode cX5_copy 0 = .ok (.aload_n 0, 1) := by decide +kernel
theorem dX5_copy_1 : decode cX5_copy 1 = .ok (.ifnull 7, 3) := by decide +kernel
theorem dX5_copy_4 : decode cX5_copy 4 = .ok (.aload_n 1, 1) := by decide +kernel
theorem dX5_copy_5 : decode cX5_copy 5 = .ok (.ifnonnull 4, 3) := by decide +kernel
theorem dX5_copy_8 : decode cX5_copy 8 = .ok (.return_, 1) := by decide +kernel
theorem dX5_copy_9 : decode cX5_copy 9 = .ok (.aload_n 0, 1) := by decide +kernel
theorem dX5_copy_10 : decode cX5_copy 10 = .ok (.getfield 9, 3) := by decide +kernel
theorem dX5_copy_13 : decode cX5_copy 13 = .ok (.iconst 0, 1) := by decide +kernel
theorem dX5_copy_14 : decode cX5_copy 14 = .ok (.aload_n 1, 1) := by decide +kernel
theorem dX5_copy_15 : decode cX5_copy 15 = .ok (.getfield 9, 3) := by decide +kernel
theorem dX5_copy_18 : decode cX5_copy 18 = .ok (.iconst 0, 1) := by decide +kernel
theorem dX5_copy_19 : decode cX5_copy 19 = .ok (.iconst 5, 1) := by decide +kernel
theorem dX5_copy_20 : decode cX5_copy 20 = .ok (.invokestatic 35, 3) := by decide +kernel
theorem dX5_copy_23 : decode cX5_copy 23 = .ok (.aload_n 0, 1) := by decide +kernel
theorem dX5_copy_24 : decode cX5_copy 24 = .ok (.getfield 15, 3) := by decide +kernel
theorem dX5_copy_27 : decode cX5_copy 27 = .ok (.iconst 0, 1) := by decide +kernel
theorem dX5_copy_28 : decode cX5_copy 28 = .ok (.aload_n 1, 1) := by decide +kernel
theorem dX5_copy_29 : decode cX5_copy 29 = .ok (.getfield 15, 3) := by decide +kernel
theorem dX5_copy_32 : decode cX5_copy 32 = .ok (.iconst 0, 1) := by decide +kernel
theorem dX5_copy_33 : decode cX5_copy 33 = .ok (.iconst 3, 1) := by decide +kernel
theorem dX5_copy_34 : decode cX5_copy 34 = .ok (.invokestatic 35, 3) := by decide +kernel
theorem dX5_copy_37 : decode cX5_copy 37 = .ok (.aload_n 1, 1) := by decide +kernel
theorem dX5_copy_38 : decode cX5_copy 38 = .ok (.aload_n 0, 1) := by decide +kernel
theorem dX5_copy_39 : decode cX5_copy 39 = .ok (.getfield 41, 3) := by decide +kernel
theorem dX5_copy_42 : decode cX5_copy 42 = .ok (.putfield 41, 3) := by decide +kernel
theorem dX5_copy_45 : decode cX5_copy 45 = .ok (.aload_n 1, 1) := by decide +kernel
theorem dX5_copy_46 : decode cX5_copy 46 = .ok (.aload_n 0, 1) := by decide +kernel
theorem dX5_copy_47 : decode cX5_copy 47 = .ok (.getfield 44, 3) := by decide +kernel
theorem dX5_copy_50 : decode cX5_copy 50 = .ok (.putfield 44, 3) := by decide +kernel
theorem dX5_copy_53 : decode cX5_copy 53 = .ok (.aload_n 1, 1) := by decide +kernel
theorem dX5_copy_54 : decode cX5_copy 54 = .ok (.aload_n 0, 1) := by decide +kernel
theorem dX5_copy_55 : decode cX5_copy 55 = .ok (.getfield 47, 3) := by decide +kernel
theorem dX5_copy_58 : decode cX5_copy 58 = .ok (.putfield 47, 3) := by decide +kernel
theorem dX5_copy_61 : decode cX5_copy 61 = .ok (.aload_n 1, 1) := by decide +kernel
theorem dX5_copy_62 : decode cX5_copy 62 = .ok (.aload_n 0, 1) := by decide +kernel
theorem dX5_copy_63 : decode cX5_copy 63 = .ok (.getfield 50, 3) := by decide +kernel
theorem dX5_copy_66 : decode cX5_copy 66 = .ok (.putfield 50, 3) := by decide +kernel
theorem dX5_copy_69 : decode cX5_copy 69 = .ok (.aload_n 1, 1) := by decide +kernel
theorem dX5_copy_70 : decode cX5_copy 70 = .ok (.aload_n 0, 1) := by decide +kernel
theorem dX5_copy_71 : decode cX5_copy 71 = .ok (.getfield 20, 3) := by decide +kernel
theorem dX5_copy_74 : decode cX5_copy 74 = .ok (.putfield 20, 3) := by decide +kernel
theorem dX5_copy_77 : decode cX5_copy 77 = .ok (.aload_n 1, 1) := by decide +kernel
theorem dX5_copy_78 : decode cX5_copy 78 = .ok (.aload_n 0, 1) := by decide +kernel
theorem dX5_copy_79 : decode cX5_copy 79 = .ok (.getfield 53, 3) := by decide +kernel
theorem dX5_copy_82 : decode cX5_copy 82 = .ok (.putfield 53, 3) := by decide +kernel
theorem dX5_copy_85 : decode cX5_copy 85 = .ok (.aload_n 1, 1) := by decide +kernel
theorem dX5_copy_86 : decode cX5_copy 86 = .ok (.aload_n 0, 1) := by decide +kernel
theorem dX5_copy_87 : decode cX5_copy 87 = .ok (.getfield 56, 3) := by decide +kernel
theorem dX5_copy_90 : decode cX5_copy 90 = .ok (.putfield 56, 3) := by decide +kernel
theorem dX5_copy_93 : decode cX5_copy 93 = .ok (.return_, 1) := by decide +kernel
theorem dX5_endDay_0 : decode cX5_endDay 0 = .ok (.aload_n 2, 1) := by decide +kernel
theorem dX5_endDay_1 : decode cX5_endDay 1 = .ok (.getfield 59, 3) := by decide +kernel
theorem dX5_endDay_4 : decode cX5_endDay 4 = .ok (.iconst 0, 1) := by decide +kernel
theorem dX5_endDay_5 : decode cX5_endDay 5 = .ok (.aload_n 0, 1) := by decide +kernel
theorem dX5_endDay_6 : decode cX5_endDay 6 = .ok (.getfield 15, 3) := by decide +kernel
theorem dX5_endDay_9 : decode cX5_endDay 9 = .ok (.iconst 0, 1) := by decide +kernel
theorem dX5_endDay_10 : decode cX5_endDay 10 = .ok (.iconst 3, 1) := by decide +kernel
theorem dX5_endDay_11 : decode cX5_endDay 11 = .ok (.invokestatic 35, 3) := by decide +kernel
theorem dX5_endDay_14 : decode cX5_endDay 14 = .ok (.aload_n 0, 1) := by decide +kernel
theorem dX5_endDay_15 : decode cX5_endDay 15 = .ok (.aload_n 2, 1) := by decide +kernel
theorem dX5_endDay_16 : decode cX5_endDay 16 = .ok (.getfield 62, 3) := by decide +kernel
theorem dX5_endDay_19 : decode cX5_endDay 19 = .ok (.putfield 41, 3) := by decide +kernel
theorem dX5_endDay_22 : decode cX5_endDay 22 = .ok (.aload_n 0, 1) := by decide +kernel
theorem dX5_endDay_23 : decode cX5_endDay 23 = .ok (.dup, 1) := by decide +kernel
theorem dX5_endDay_24 : decode cX5_endDay 24 = .ok (.getfield 44, 3) := by decide +kernel
theorem dX5_endDay_27 : decode cX5_endDay 27 = .ok (.aload_n 2, 1) := by decide +kernel
theorem dX5_endDay_28 : decode cX5_endDay 28 = .ok (.getfield 63, 3) := by decide +kernel
theorem dX5_endDay_31 : decode cX5_endDay 31 = .ok (.iadd, 1) := by decide +kernel
theorem dX5_endDay_32 : decode cX5_endDay 32 = .ok (.putfield 44, 3) := by decide +kernel
theorem dX5_endDay_35 : decode cX5_endDay 35 = .ok (.aload_n 0, 1) := by decide +kernel
theorem dX5_endDay_36 : decode cX5_endDay 36 = .ok (.dup, 1) := by decide +kernel
theorem dX5_endDay_37 : decode cX5_endDay 37 = .ok (.getfield 47, 3) := by decide +kernel
theorem dX5_endDay_40 : decode cX5_endDay 40 = .ok (.aload_n 2, 1) := by decide +kernel
theorem dX5_endDay_41 : decode cX5_endDay 41 = .ok (.getfield 64, 3) := by decide +kernel
theorem dX5_endDay_44 : decode cX5_endDay 44 = .ok (.aload_n 2, 1) := by decide +kernel
theorem dX5_endDay_45 : decode cX5_endDay 45 = .ok (.getfield 63, 3) := by decide +kernel
theorem dX5_endDay_48 : decode cX5_endDay 48 = .ok (.isub, 1) := by decide +kernel
theorem dX5_endDay_49 : decode cX5_endDay 49 = .ok (.iadd, 1) := by decide +kernel
theorem dX5_endDay_50 : decode cX5_endDay 50 = .ok (.putfield 47, 3) := by decide +kernel
theorem dX5_endDay_53 : decode cX5_endDay 53 = .ok (.aload_n 0, 1) := by decide +kernel
theorem dX5_endDay_54 : decode cX5_endDay 54 = .ok (.dup, 1) := by decide +kernel
theorem dX5_endDay_55 : decode cX5_endDay 55 = .ok (.getfield 53, 3) := by decide +kernel
theorem dX5_endDay_58 : decode cX5_endDay 58 = .ok (.iconst 0, 1) := by decide +kernel
theorem dX5_endDay_59 : decode cX5_endDay 59 = .ok (.aload_n 1, 1) := by decide +kernel
theorem dX5_endDay_60 : decode cX5_endDay 60 = .ok (.getfield 67, 3) := by decide +kernel
theorem dX5_endDay_63 : decode cX5_endDay 63 = .ok (.aload_n 2, 1) := by decide +kernel
theorem dX5_endDay_64 : decode cX5_endDay 64 = .ok (.getfield 64, 3) := by decide +kernel
theorem dX5_endDay_67 : decode cX5_endDay 67 = .ok (.isub, 1) := by decide +kernel
theorem dX5_endDay_68 : decode cX5_endDay 68 = .ok (.aload_n 0, 1) := by decide +kernel
theorem dX5_endDay_69 : decode cX5_endDay 69 = .ok (.getfield 50, 3) := by decide +kernel
theorem dX5_endDay_72 : decode cX5_endDay 72 = .ok (.isub, 1) := by decide +kernel
theorem dX5_endDay_73 : decode cX5_endDay 73 = .ok (.invokestatic 70, 3) := by decide +kernel
theorem dX5_endDay_76 : decode cX5_endDay 76 = .ok (.iadd, 1) := by decide +kernel
theorem dX5_endDay_77 : decode cX5_endDay 77 = .ok (.putfield 53, 3) := by decide +kernel
theorem dX5_endDay_80 : decode cX5_endDay 80 = .ok (.aload_n 0, 1) := by decide +kernel
theorem dX5_endDay_81 : decode cX5_endDay 81 = .ok (.iconst 0, 1) := by decide +kernel
theorem dX5_endDay_82 : decode cX5_endDay 82 = .ok (.putfield 50, 3) := by decide +kernel
theorem dX5_endDay_85 : decode cX5_endDay 85 = .ok (.aload_n 0, 1) := by decide +kernel
theorem dX5_endDay_86 : decode cX5_endDay 86 = .ok (.dup, 1) := by decide +kernel
theorem dX5_endDay_87 : decode cX5_endDay 87 = .ok (.getfield 56, 3) := by decide +kernel
theorem dX5_endDay_90 : decode cX5_endDay 90 = .ok (.iconst 1, 1) := by decide +kernel
theorem dX5_endDay_91 : decode cX5_endDay 91 = .ok (.iadd, 1) := by decide +kernel
theorem dX5_endDay_92 : decode cX5_endDay 92 = .ok (.putfield 56, 3) := by decide +kernel
theorem dX5_endDay_95 : decode cX5_endDay 95 = .ok (.return_, 1) := by decide +kernel
theorem dX5_bricks_0 : decode cX5_bricks 0 = .ok (.iload_n 1, 1) := by decide +kernel
theorem dX5_bricks_1 : decode cX5_bricks 1 = .ok (.iconst 1, 1) := by decide +kernel
theorem dX5_bricks_2 : decode cX5_bricks 2 = .ok (.if_icmp .ne 10, 3) := by decide +kernel
theorem dX5_bricks_5 : decode cX5_bricks 5 = .ok (.aload_n 0, 1) := by decide +kernel
theorem dX5_bricks_6 : decode cX5_bricks 6 = .ok (.getfield 44, 3) := by decide +kernel
theorem dX5_bricks_9 : decode cX5_bricks 9 = .ok (.goto 7, 3) := by decide +kernel
theorem dX5_bricks_12 : decode cX5_bricks 12 = .ok (.aload_n 0, 1) := by decide +kernel
theorem dX5_bricks_13 : decode cX5_bricks 13 = .ok (.getfield 47, 3) := by decide +kernel
theorem dX5_bricks_16 : decode cX5_bricks 16 = .ok (.ireturn, 1) := by decide +kernel
theorem dX5_layCourse_0 : decode cX5_layCourse 0 = .ok (.iload_n 1, 1) := by decide +kernel
theorem dX5_layCourse_1 : decode cX5_layCourse 1 = .ok (.iconst 1, 1) := by decide +kernel
theorem dX5_layCourse_2 : decode cX5_layCourse 2 = .ok (.if_icmp .ne 16, 3) := by decide +kernel
theorem dX5_layCourse_5 : decode cX5_layCourse 5 = .ok (.aload_n 0, 1) := by decide +kernel
theorem dX5_layCourse_6 : decode cX5_layCourse 6 = .ok (.dup, 1) := by decide +kernel
theorem dX5_layCourse_7 : decode cX5_layCourse 7 = .ok (.getfield 44, 3) := by decide +kernel
theorem dX5_layCourse_10 : decode cX5_layCourse 10 = .ok (.iconst 2, 1) := by decide +kernel
theorem dX5_layCourse_11 : decode cX5_layCourse 11 = .ok (.isub, 1) := by decide +kernel
theorem dX5_layCourse_12 : decode cX5_layCourse 12 = .ok (.putfield 44, 3) := by decide +kernel
theorem dX5_layCourse_15 : decode cX5_layCourse 15 = .ok (.goto 13, 3) := by decide +kernel
theorem dX5_layCourse_18 : decode cX5_layCourse 18 = .ok (.aload_n 0, 1) := by decide +kernel
theorem dX5_layCourse_19 : decode cX5_layCourse 19 = .ok (.dup, 1) := by decide +kernel
theorem dX5_layCourse_20 : decode cX5_layCourse 20 = .ok (.getfield 47, 3) := by decide +kernel
theorem dX5_layCourse_23 : decode cX5_layCourse 23 = .ok (.iconst 2, 1) := by decide +kernel
theorem dX5_layCourse_24 : decode cX5_layCourse 24 = .ok (.isub, 1) := by decide +kernel
theorem dX5_layCourse_25 : decode cX5_layCourse 25 = .ok (.putfield 47, 3) := by decide +kernel
theorem dX5_layCourse_28 : decode cX5_layCourse 28 = .ok (.aload_n 0, 1) := by decide +kernel
theorem dX5_layCourse_29 : decode cX5_layCourse 29 = .ok (.aload_n 0, 1) := by decide +kernel
theorem dX5_layCourse_30 : decode cX5_layCourse 30 = .ok (.getfield 20, 3) := by decide +kernel
theorem dX5_layCourse_33 : decode cX5_layCourse 33 = .ok (.iload_n 1, 1) := by decide +kernel
theorem dX5_layCourse_34 : decode cX5_layCourse 34 = .ok (.invokestatic 76, 3) := by decide +kernel
theorem dX5_layCourse_37 : decode cX5_layCourse 37 = .ok (.putfield 20, 3) := by decide +kernel
theorem dX5_layCourse_40 : decode cX5_layCourse 40 = .ok (.return_, 1) := by decide +kernel
theorem dX6_init_0 : decode cX6_init 0 = .ok (.aload_n 0, 1) := by decide +kernel
theorem dX6_init_1 : decode cX6_init 1 = .ok (.invokespecial 3, 3) := by decide +kernel
theorem dX6_init_4 : decode cX6_init 4 = .ok (.aload_n 0, 1) := by decide +kernel
theorem dX6_init_5 : decode cX6_init 5 = .ok (.bipush 40, 2) := by decide +kernel
theorem dX6_init_7 : decode cX6_init 7 = .ok (.newarray .int, 2) := by decide +kernel
theorem dX6_init_9 : decode cX6_init 9 = .ok (.putfield 9, 3) := by decide +kernel
theorem dX6_init_12 : decode cX6_init 12 = .ok (.return_, 1) := by decide +kernel
theorem dX6_append_0 : decode cX6_append 0 = .ok (.aload_n 0, 1) := by decide +kernel
theorem dX6_append_1 : decode cX6_append 1 = .ok (.getfield 15, 3) := by decide +kernel
theorem dX6_append_4 : decode cX6_append 4 = .ok (.bipush 40, 2) := by decide +kernel
theorem dX6_append_6 : decode cX6_append 6 = .ok (.if_icmp .lt 5, 3) := by decide +kernel
theorem dX6_append_9 : decode cX6_append 9 = .ok (.iconst 0, 1) := by decide +kernel
theorem dX6_append_10 : decode cX6_append 10 = .ok (.ireturn, 1) := by decide +kernel
theorem dX6_append_11 : decode cX6_append 11 = .ok (.aload_n 0, 1) := by decide +kernel
theorem dX6_append_12 : decode cX6_append 12 = .ok (.getfield 9, 3) := by decide +kernel
theorem dX6_append_15 : decode cX6_append 15 = .ok (.aload_n 0, 1) := by decide +kernel
theorem dX6_append_16 : decode cX6_append 16 = .ok (.getfield 15, 3) := by decide +kernel
theorem dX6_append_19 : decode cX6_append 19 = .ok (.iload_n 1, 1) := by decide +kernel
theorem dX6_append_20 : decode cX6_append 20 = .ok (.iastore, 1) := by decide +kernel
theorem dX6_append_21 : decode cX6_append 21 = .ok (.aload_n 0, 1) := by decide +kernel
theorem dX6_append_22 : decode cX6_append 22 = .ok (.dup, 1) := by decide +kernel
theorem dX6_append_23 : decode cX6_append 23 = .ok (.getfield 15, 3) := by decide +kernel
theorem dX6_append_26 : decode cX6_append 26 = .ok (.iconst 1, 1) := by decide +kernel
theorem dX6_append_27 : decode cX6_append 27 = .ok (.iadd, 1) := by decide +kernel
theorem dX6_append_28 : decode cX6_append 28 = .ok (.putfield 15, 3) := by decide +kernel
theorem dX6_append_31 : decode cX6_append 31 = .ok (.iconst 1, 1) := by decide +kernel
theorem dX6_append_32 : decode cX6_append 32 = .ok (.ireturn, 1) := by decide +kernel
theorem dX6_firstFault_0 : decode cX6_firstFault 0 = .ok (.iconst 0, 1) := by decide +kernel
theorem dX6_firstFault_1 : decode cX6_firstFault 1 = .ok (.istore_n 1, 1) := by decide +kernel
theorem dX6_firstFault_2 : decode cX6_firstFault 2 = .ok (.iload_n 1, 1) := by decide +kernel
theorem dX6_firstFault_3 : decode cX6_firstFault 3 = .ok (.aload_n 0, 1) := by decide +kernel
theorem dX6_firstFault_4 : decode cX6_firstFault 4 = .ok (.getfield 15, 3) := by decide +kernel
theorem dX6_firstFault_7 : decode cX6_firstFault 7 = .ok (.if_icmp .ge 19, 3) := by decide +kernel
theorem dX6_firstFault_10 : decode cX6_firstFault 10 = .ok (.aload_n 0, 1) := by decide +kernel
theorem dX6_firstFault_11 : decode cX6_firstFault 11 = .ok (.iload_n 1, 1) := by decide +kernel
theorem dX6_firstFault_12 : decode cX6_firstFault 12 = .ok (.invokevirtual 19, 3) := by decide +kernel
theorem dX6_firstFault_15 : decode cX6_firstFault 15 = .ok (.ifCond .ne 5, 3) := by decide +kernel
theorem dX6_firstFault_18 : decode cX6_firstFault 18 = .ok (.iload_n 1, 1) := by decide +kernel
theorem dX6_firstFault_19 : decode cX6_firstFault 19 = .ok (.ireturn, 1) := by decide +kernel
theorem dX6_firstFault_20 : decode cX6_firstFault 20 = .ok (.iinc 1 1, 3) := by decide +kernel
theorem dX6_firstFault_23 : decode cX6_firstFault 23 = .ok (.goto (-21), 3) := by decide +kernel
theorem dX6_firstFault_26 : decode cX6_firstFault 26 = .ok (.aload_n 0, 1) := by decide +kernel
theorem dX6_firstFault_27 : decode cX6_firstFault 27 = .ok (.getfield 15, 3) := by decide +kernel
theorem dX6_firstFault_30 : decode cX6_firstFault 30 = .ok (.iconst 2, 1) := by decide +kernel
theorem dX6_firstFault_31 : decode cX6_firstFault 31 = .ok (.if_icmp .lt 18, 3) := by decide +kernel
theorem dX6_firstFault_34 : decode cX6_firstFault 34 = .ok (.aload_n 0, 1) := by decide +kernel
theorem dX6_firstFault_35 : decode cX6_firstFault 35 = .ok (.getfield 15, 3) := by decide +kernel
theorem dX6_firstFault_38 : decode cX6_firstFault 38 = .ok (.iconst 2, 1) := by decide +kernel
theorem dX6_firstFault_39 : decode cX6_firstFault 39 = .ok (.isub, 1) := by decide +kernel
theorem dX6_firstFault_40 : decode cX6_firstFault 40 = .ok (.iconst 3, 1) := by decide +kernel
theorem dX6_firstFault_41 : decode cX6_firstFault 41 = .ok (.irem, 1) := by decide +kernel
theorem dX6_firstFault_42 : decode cX6_firstFault 42 = .ok (.ifCond .ne 7, 3) := by decide +kernel
theorem dX6_firstFault_45 : decode cX6_firstFault 45 = .ok (.iconst 1, 1) := by decide +kernel
theorem dX6_firstFault_46 : decode cX6_firstFault 46 = .ok (.goto 4, 3) := by decide +kernel
theorem dX6_firstFault_49 : decode cX6_firstFault 49 = .ok (.iconst 0, 1) := by decide +kernel
theorem dX6_firstFault_50 : decode cX6_firstFault 50 = .ok (.istore_n 1, 1) := by decide +kernel
theorem dX6_firstFault_51 : decode cX6_firstFault 51 = .ok (.iload_n 1, 1) := by decide +kernel
theorem dX6_firstFault_52 : decode cX6_firstFault 52 = .ok (.ifCond .eq 8, 3) := by decide +kernel
theorem dX6_firstFault_55 : decode cX6_firstFault 55 = .ok (.bipush (-9), 2) := by decide +kernel
theorem dX6_firstFault_57 : decode cX6_firstFault 57 = .ok (.goto 7, 3) := by decide +kernel
theorem dX6_firstFault_60 : decode cX6_firstFault 60 = .ok (.aload_n 0, 1) := by decide +kernel
theorem dX6_firstFault_61 : decode cX6_firstFault 61 = .ok (.getfield 15, 3) := by decide +kernel
theorem dX6_firstFault_64 : decode cX6_firstFault 64 = .ok (.ireturn, 1) := by decide +kernel
theorem dX6_fits_0 : decode cX6_fits 0 = .ok (.iload_n 1, 1) := by decide +kernel
theorem dX6_fits_1 : decode cX6_fits 1 = .ok (.ifCond .ne 19, 3) := by decide +kernel
theorem dX6_fits_4 : decode cX6_fits 4 = .ok (.aload_n 0, 1) := by decide +kernel
theorem dX6_fits_5 : decode cX6_fits 5 = .ok (.iload_n 1, 1) := by decide +kernel
theorem dX6_fits_6 : decode cX6_fits 6 = .ok (.invokevirtual 23, 3) := by decide +kernel
theorem dX6_fits_9 : decode cX6_fits 9 = .ok (.bipush 66, 2) := by decide +kernel
theorem dX6_fits_11 : decode cX6_fits 11 = .ok (.if_icmp .ne 7, 3) := by decide +kernel
theorem dX6_fits_14 : decode cX6_fits 14 = .ok (.iconst 1, 1) := by decide +kernel
theorem dX6_fits_15 : decode cX6_fits 15 = .ok (.goto 4, 3) := by decide +kernel
theorem dX6_fits_18 : decode cX6_fits 18 = .ok (.iconst 0, 1) := by decide +kernel
theorem dX6_fits_19 : decode cX6_fits 19 = .ok (.ireturn, 1) := by decide +kernel
theorem dX6_fits_20 : decode cX6_fits 20 = .ok (.iload_n 1, 1) := by decide +kernel
theorem dX6_fits_21 : decode cX6_fits 21 = .ok (.iconst 1, 1) := by decide +kernel
theorem dX6_fits_22 : decode cX6_fits 22 = .ok (.if_icmp .ne 12, 3) := by decide +kernel
theorem dX6_fits_25 : decode cX6_fits 25 = .ok (.aload_n 0, 1) := by decide +kernel
theorem dX6_fits_26 : decode cX6_fits 26 = .ok (.iload_n 1, 1) := by decide +kernel
theorem dX6_fits_27 : decode cX6_fits 27 = .ok (.iconst 0, 1) := by decide +kernel
theorem dX6_fits_28 : decode cX6_fits 28 = .ok (.bipush 9, 2) := by decide +kernel
theorem dX6_fits_30 : decode cX6_fits 30 = .ok (.invokevirtual 27, 3) := by decide +kernel
theorem dX6_fits_33 : decode cX6_fits 33 = .ok (.ireturn, 1) := by decide +kernel
theorem dX6_fits_34 : decode cX6_fits 34 = .ok (.iload_n 1, 1) := by decide +kernel
theorem dX6_fits_35 : decode cX6_fits 35 = .ok (.iconst 2, 1) := by decide +kernel
theorem dX6_fits_36 : decode cX6_fits 36 = .ok (.isub, 1) := by decide +kernel
theorem dX6_fits_37 : decode cX6_fits 37 = .ok (.iconst 3, 1) := by decide +kernel
theorem dX6_fits_38 : decode cX6_fits 38 = .ok (.irem, 1) := by decide +kernel
theorem dX6_fits_39 : decode cX6_fits 39 = .ok (.lookupswitch 61 #[(0, 25), (1, 31)], 25) := by decide +kernel
theorem dX6_fits_64 : decode cX6_fits 64 = .ok (.aload_n 0, 1) := by decide +kernel
theorem dX6_fits_65 : decode cX6_fits 65 = .ok (.iload_n 1, 1) := by decide +kernel
theorem dX6_fits_66 : decode cX6_fits 66 = .ok (.invokevirtual 31, 3) := by decide +kernel
theorem dX6_fits_69 : decode cX6_fits 69 = .ok (.ireturn, 1) := by decide +kernel
theorem dX6_fits_70 : decode cX6_fits 70 = .ok (.aload_n 0, 1) := by decide +kernel
theorem dX6_fits_71 : decode cX6_fits 71 = .ok (.iload_n 1, 1) := by decide +kernel
theorem dX6_fits_72 : decode cX6_fits 72 = .ok (.iconst 1, 1) := by decide +kernel
theorem dX6_fits_73 : decode cX6_fits 73 = .ok (.isub, 1) := by decide +kernel
theorem dX6_fits_74 : decode cX6_fits 74 = .ok (.invokevirtual 23, 3) := by decide +kernel
theorem dX6_fits_77 : decode cX6_fits 77 = .ok (.bipush 72, 2) := by decide +kernel
theorem dX6_fits_79 : decode cX6_fits 79 = .ok (.if_icmp .ne 13, 3) := by decide +kernel
theorem dX6_fits_82 : decode cX6_fits 82 = .ok (.aload_n 0, 1) := by decide +kernel
theorem dX6_fits_83 : decode cX6_fits 83 = .ok (.iload_n 1, 1) := by decide +kernel
theorem dX6_fits_84 : decode cX6_fits 84 = .ok (.iconst 1, 1) := by decide +kernel
theorem dX6_fits_85 : decode cX6_fits 85 = .ok (.iconst 4, 1) := by decide +kernel
theorem dX6_fits_86 : decode cX6_fits 86 = .ok (.invokevirtual 27, 3) := by decide +kernel
theorem dX6_fits_89 : decode cX6_fits 89 = .ok (.goto 10, 3) := by decide +kernel
theorem dX6_fits_92 : decode cX6_fits 92 = .ok (.aload_n 0, 1) := by decide +kernel
theorem dX6_fits_93 : decode cX6_fits 93 = .ok (.iload_n 1, 1) := by decide +kernel
theorem dX6_fits_94 : decode cX6_fits 94 = .ok (.iconst 0, 1) := by decide +kernel
theorem dX6_fits_95 : decode cX6_fits 95 = .ok (.iconst 3, 1) := by decide +kernel
theorem dX6_fits_96 : decode cX6_fits 96 = .ok (.invokevirtual 27, 3) := by decide +kernel
theorem dX6_fits_99 : decode cX6_fits 99 = .ok (.ireturn, 1) := by decide +kernel
theorem dX6_fits_100 : decode cX6_fits 100 = .ok (.aload_n 0, 1) := by decide +kernel
theorem dX6_fits_101 : decode cX6_fits 101 = .ok (.iload_n 1, 1) := by decide +kernel
theorem dX6_fits_102 : decode cX6_fits 102 = .ok (.iconst 2, 1) := by decide +kernel
theorem dX6_fits_103 : decode cX6_fits 103 = .ok (.isub, 1) := by decide +kernel
theorem dX6_fits_104 : decode cX6_fits 104 = .ok (.invokevirtual 23, 3) := by decide +kernel
theorem dX6_fits_107 : decode cX6_fits 107 = .ok (.bipush 72, 2) := by decide +kernel
theorem dX6_fits_109 : decode cX6_fits 109 = .ok (.if_icmp .ne 13, 3) := by decide +kernel
theorem dX6_fits_112 : decode cX6_fits 112 = .ok (.aload_n 0, 1) := by decide +kernel
theorem dX6_fits_113 : decode cX6_fits 113 = .ok (.iload_n 1, 1) := by decide +kernel
theorem dX6_fits_114 : decode cX6_fits 114 = .ok (.iconst 0, 1) := by decide +kernel
theorem dX6_fits_115 : decode cX6_fits 115 = .ok (.iconst 3, 1) := by decide +kernel
theorem dX6_fits_116 : decode cX6_fits 116 = .ok (.invokevirtual 27, 3) := by decide +kernel
theorem dX6_fits_119 : decode cX6_fits 119 = .ok (.goto 11, 3) := by decide +kernel
theorem dX6_fits_122 : decode cX6_fits 122 = .ok (.aload_n 0, 1) := by decide +kernel
theorem dX6_fits_123 : decode cX6_fits 123 = .ok (.iload_n 1, 1) := by decide +kernel
theorem dX6_fits_124 : decode cX6_fits 124 = .ok (.iconst 0, 1) := by decide +kernel
theorem dX6_fits_125 : decode cX6_fits 125 = .ok (.bipush 9, 2) := by decide +kernel
theorem dX6_fits_127 : decode cX6_fits 127 = .ok (.invokevirtual 27, 3) := by decide +kernel
theorem dX6_fits_130 : decode cX6_fits 130 = .ok (.ireturn, 1) := by decide +kernel
theorem dX6_beginsPart_0 : decode cX6_beginsPart 0 = .ok (.aload_n 0, 1) := by decide +kernel
theorem dX6_beginsPart_1 : decode cX6_beginsPart 1 = .ok (.iload_n 1, 1) := by decide +kernel
theorem dX6_beginsPart_2 : decode cX6_beginsPart 2 = .ok (.invokevirtual 23, 3) := by decide +kernel
theorem dX6_beginsPart_5 : decode cX6_beginsPart 5 = .ok (.bipush 72, 2) := by decide +kernel
theorem dX6_beginsPart_7 : decode cX6_beginsPart 7 = .ok (.if_icmp .ne 20, 3) := by decide +kernel
theorem dX6_beginsPart_10 : decode cX6_beginsPart 10 = .ok (.aload_n 0, 1) := by decide +kernel
theorem dX6_beginsPart_11 : decode cX6_beginsPart 11 = .ok (.iload_n 1, 1) := by decide +kernel
theorem dX6_beginsPart_12 : decode cX6_beginsPart 12 = .ok (.bipush 72, 2) := by decide +kernel
theorem dX6_beginsPart_14 : decode cX6_beginsPart 14 = .ok (.invokevirtual 34, 3) := by decide +kernel
theorem dX6_beginsPart_17 : decode cX6_beginsPart 17 = .ok (.iconst 5, 1) := by decide +kernel
theorem dX6_beginsPart_18 : decode cX6_beginsPart 18 = .ok (.if_icmp .ge 7, 3) := by decide +kernel
theorem dX6_beginsPart_21 : decode cX6_beginsPart 21 = .ok (.iconst 1, 1) := by decide +kernel
theorem dX6_beginsPart_22 : decode cX6_beginsPart 22 = .ok (.goto 4, 3) := by decide +kernel
theorem dX6_beginsPart_25 : decode cX6_beginsPart 25 = .ok (.iconst 0, 1) := by decide +kernel
theorem dX6_beginsPart_26 : decode cX6_beginsPart 26 = .ok (.ireturn, 1) := by decide +kernel
theorem dX6_beginsPart_27 : decode cX6_beginsPart 27 = .ok (.aload_n 0, 1) := by decide +kernel
theorem dX6_beginsPart_28 : decode cX6_beginsPart 28 = .ok (.iload_n 1, 1) := by decide +kernel
theorem dX6_beginsPart_29 : decode cX6_beginsPart 29 = .ok (.invokevirtual 23, 3) := by decide +kernel
theorem dX6_beginsPart_32 : decode cX6_beginsPart 32 = .ok (.bipush 70, 2) := by decide +kernel
theorem dX6_beginsPart_34 : decode cX6_beginsPart 34 = .ok (.if_icmp .ne 18, 3) := by decide +kernel
theorem dX6_beginsPart_37 : decode cX6_beginsPart 37 = .ok (.aload_n 0, 1) := by decide +kernel
theorem dX6_beginsPart_38 : decode cX6_beginsPart 38 = .ok (.iload_n 1, 1) := by decide +kernel
theorem dX6_beginsPart_39 : decode cX6_beginsPart 39 = .ok (.bipush 70, 2) := by decide +kernel
theorem dX6_beginsPart_41 : decode cX6_beginsPart 41 = .ok (.invokevirtual 34, 3) := by decide +kernel
theorem dX6_beginsPart_44 : decode cX6_beginsPart 44 = .ok (.iconst 3, 1) := by decide +kernel
theorem dX6_beginsPart_45 : decode cX6_beginsPart 45 = .ok (.if_icmp .ge 7, 3) := by decide +kernel
theorem dX6_beginsPart_48 : decode cX6_beginsPart 48 = .ok (.iconst 1, 1) := by decide +kernel
theorem dX6_beginsPart_49 : decode cX6_beginsPart 49 = .ok (.goto 4, 3) := by decide +kernel
theorem dX6_beginsPart_52 : decode cX6_beginsPart 52 = .ok (.iconst 0, 1) := by decide +kernel
theorem dX6_beginsPart_53 : decode cX6_beginsPart 53 = .ok (.ireturn, 1) := by decide +kernel
theorem dX6_partsBefore_0 : decode cX6_partsBefore 0 = .ok (.iconst 0, 1) := by decide +kernel
theorem dX6_partsBefore_1 : decode cX6_partsBefore 1 = .ok (.istore_n 3, 1) := by decide +kernel
theorem dX6_partsBefore_2 : decode cX6_partsBefore 2 = .ok (.iconst 2, 1) := by decide +kernel
theorem dX6_partsBefore_3 : decode cX6_partsBefore 3 = .ok (.istore 4, 2) := by decide +kernel
theorem dX6_partsBefore_5 : decode cX6_partsBefore 5 = .ok (.iload 4, 2) := by decide +kernel
theorem dX6_partsBefore_7 : decode cX6_partsBefore 7 = .ok (.iload_n 1, 1) := by decide +kernel
theorem dX6_partsBefore_8 : decode cX6_partsBefore 8 = .ok (.if_icmp .ge 22, 3) := by decide +kernel
theorem dX6_partsBefore_11 : decode cX6_partsBefore 11 = .ok (.aload_n 0, 1) := by decide +kernel
theorem dX6_partsBefore_12 : decode cX6_partsBefore 12 = .ok (.iload 4, 2) := by decide +kernel
theorem dX6_partsBefore_14 : decode cX6_partsBefore 14 = .ok (.invokevirtual 23, 3) := by decide +kernel
theorem dX6_partsBefore_17 : decode cX6_partsBefore 17 = .ok (.iload_n 2, 1) := by decide +kernel
theorem dX6_partsBefore_18 : decode cX6_partsBefore 18 = .ok (.if_icmp .ne 6, 3) := by decide +kernel
theorem dX6_partsBefore_21 : decode cX6_partsBefore 21 = .ok (.iinc 3 1, 3) := by decide +kernel
theorem dX6_partsBefore_24 : decode cX6_partsBefore 24 = .ok (.iinc 4 3, 3) := by decide +kernel
theorem dX6_partsBefore_27 : decode cX6_partsBefore 27 = .ok (.goto (-22), 3) := by decide +kernel
theorem dX6_partsBefore_30 : decode cX6_partsBefore 30 = .ok (.iload_n 3, 1) := by decide +kernel
theorem dX6_partsBefore_31 : decode cX6_partsBefore 31 = .ok (.ireturn, 1) := by decide +kernel
theorem dX6_isFigure_0 : decode cX6_isFigure 0 = .ok (.aload_n 0, 1) := by decide +kernel
theorem dX6_isFigure_1 : decode cX6_isFigure 1 = .ok (.iload_n 1, 1) := by decide +kernel
theorem dX6_isFigure_2 : decode cX6_isFigure 2 = .ok (.invokevirtual 38, 3) := by decide +kernel
theorem dX6_isFigure_5 : decode cX6_isFigure 5 = .ok (.iload_n 2, 1) := by decide +kernel
theorem dX6_isFigure_6 : decode cX6_isFigure 6 = .ok (.if_icmp .lt 16, 3) := by decide +kernel
theorem dX6_isFigure_9 : decode cX6_isFigure 9 = .ok (.aload_n 0, 1) := by decide +kernel
theorem dX6_isFigure_10 : decode cX6_isFigure 10 = .ok (.iload_n 1, 1) := by decide +kernel
theorem dX6_isFigure_11 : decode cX6_isFigure 11 = .ok (.invokevirtual 38, 3) := by decide +kernel
theorem dX6_isFigure_14 : decode cX6_isFigure 14 = .ok (.iload_n 3, 1) := by decide +kernel
theorem dX6_isFigure_15 : decode cX6_isFigure 15 = .ok (.if_icmp .gt 7, 3) := by decide +kernel
theorem dX6_isFigure_18 : decode cX6_isFigure 18 = .ok (.iconst 1, 1) := by decide +kernel
theorem dX6_isFigure_19 : decode cX6_isFigure 19 = .ok (.goto 4, 3) := by decide +kernel
theorem dX6_isFigure_22 : decode cX6_isFigure 22 = .ok (.iconst 0, 1) := by decide +kernel
theorem dX6_isFigure_23 : decode cX6_isFigure 23 = .ok (.ireturn, 1) := by decide +kernel
theorem dX6_figure_0 : decode cX6_figure 0 = .ok (.aload_n 0, 1) := by decide +kernel
theorem dX6_figure_1 : decode cX6_figure 1 = .ok (.iload_n 1, 1) := by decide +kernel
theorem dX6_figure_2 : decode cX6_figure 2 = .ok (.invokevirtual 23, 3) := by decide +kernel
theorem dX6_figure_5 : decode cX6_figure 5 = .ok (.bipush 48, 2) := by decide +kernel
theorem dX6_figure_7 : decode cX6_figure 7 = .ok (.isub, 1) := by decide +kernel
theorem dX6_figure_8 : decode cX6_figure 8 = .ok (.ireturn, 1) := by decide +kernel
theorem dX6_letter_0 : decode cX6_letter 0 = .ok (.iload_n 1, 1) := by decide +kernel
theorem dX6_letter_1 : decode cX6_letter 1 = .ok (.ifCond .lt 20, 3) := by decide +kernel
theorem dX6_letter_4 : decode cX6_letter 4 = .ok (.iload_n 1, 1) := by decide +kernel
theorem dX6_letter_5 : decode cX6_letter 5 = .ok (.aload_n 0, 1) := by decide +kernel
theorem dX6_letter_6 : decode cX6_letter 6 = .ok (.getfield 15, 3) := by decide +kernel
theorem dX6_letter_9 : decode cX6_letter 9 = .ok (.if_icmp .ge 12, 3) := by decide +kernel
theorem dX6_letter_12 : decode cX6_letter 12 = .ok (.aload_n 0, 1) := by decide +kernel
theorem dX6_letter_13 : decode cX6_letter 13 = .ok (.getfield 9, 3) := by decide +kernel
theorem dX6_letter_16 : decode cX6_letter 16 = .ok (.iload_n 1, 1) := by decide +kernel
theorem dX6_letter_17 : decode cX6_letter 17 = .ok (.iaload, 1) := by decide +kernel
theorem dX6_letter_18 : decode cX6_letter 18 = .ok (.goto 4, 3) := by decide +kernel
theorem dX6_letter_21 : decode cX6_letter 21 = .ok (.iconst 0, 1) := by decide +kernel
theorem dX6_letter_22 : decode cX6_letter 22 = .ok (.ireturn, 1) := by decide +kernel
theorem dX7_of_0 : decode cX7_of 0 = .ok (.iconst 1, 1) := by decide +kernel
theorem dX7_of_1 : decode cX7_of 1 = .ok (.iload_n 0, 1) := by decide +kernel
theorem dX7_of_2 : decode cX7_of 2 = .ok (.ishl, 1) := by decide +kernel
theorem dX7_of_3 : decode cX7_of 3 = .ok (.iload_n 1, 1) := by decide +kernel
theorem dX7_of_4 : decode cX7_of 4 = .ok (.ior, 1) := by decide +kernel
theorem dX7_of_5 : decode cX7_of 5 = .ok (.ireturn, 1) := by decide +kernel
theorem dX7_heightOf_0 : decode cX7_heightOf 0 = .ok (.bipush 8, 2) := by decide +kernel
theorem dX7_heightOf_2 : decode cX7_heightOf 2 = .ok (.istore_n 1, 1) := by decide +kernel
theorem dX7_heightOf_3 : decode cX7_heightOf 3 = .ok (.iload_n 1, 1) := by decide +kernel
theorem dX7_heightOf_4 : decode cX7_heightOf 4 = .ok (.ifCond .le 15, 3) := by decide +kernel
theorem dX7_heightOf_7 : decode cX7_heightOf 7 = .ok (.iload_n 0, 1) := by decide +kernel
theorem dX7_heightOf_8 : decode cX7_heightOf 8 = .ok (.iload_n 1, 1) := by decide +kernel
theorem dX7_heightOf_9 : decode cX7_heightOf 9 = .ok (.ishr, 1) := by decide +kernel
theorem dX7_heightOf_10 : decode cX7_heightOf 10 = .ok (.ifCond .ne 9, 3) := by decide +kernel
theorem dX7_heightOf_13 : decode cX7_heightOf 13 = .ok (.iinc 1 (-1), 3) := by decide +kernel
theorem dX7_heightOf_16 : decode cX7_heightOf 16 = .ok (.goto (-13), 3) := by decide +kernel
theorem dX7_heightOf_19 : decode cX7_heightOf 19 = .ok (.iload_n 1, 1) := by decide +kernel
theorem dX7_heightOf_20 : decode cX7_heightOf 20 = .ok (.ireturn, 1) := by decide +kernel
theorem dX7_soundOf_0 : decode cX7_soundOf 0 = .ok (.iload_n 0, 1) := by decide +kernel
theorem dX7_soundOf_1 : decode cX7_soundOf 1 = .ok (.iconst 1, 1) := by decide +kernel
theorem dX7_soundOf_2 : decode cX7_soundOf 2 = .ok (.iload_n 0, 1) := by decide +kernel
theorem dX7_soundOf_3 : decode cX7_soundOf 3 = .ok (.invokestatic 9, 3) := by decide +kernel
theorem dX7_soundOf_6 : decode cX7_soundOf 6 = .ok (.ishl, 1) := by decide +kernel
theorem dX7_soundOf_7 : decode cX7_soundOf 7 = .ok (.isub, 1) := by decide +kernel
theorem dX7_soundOf_8 : decode cX7_soundOf 8 = .ok (.ireturn, 1) := by decide +kernel
theorem dX7_withCourse_0 : decode cX7_withCourse 0 = .ok (.iload_n 0, 1) := by decide +kernel
theorem dX7_withCourse_1 : decode cX7_withCourse 1 = .ok (.invokestatic 9, 3) := by decide +kernel
theorem dX7_withCourse_4 : decode cX7_withCourse 4 = .ok (.istore_n 2, 1) := by decide +kernel
theorem dX7_withCourse_5 : decode cX7_withCourse 5 = .ok (.iload_n 2, 1) := by decide +kernel
theorem dX7_withCourse_6 : decode cX7_withCourse 6 = .ok (.iconst 1, 1) := by decide +kernel
theorem dX7_withCourse_7 : decode cX7_withCourse 7 = .ok (.iadd, 1) := by decide +kernel
theorem dX7_withCourse_8 : decode cX7_withCourse 8 = .ok (.iload_n 0, 1) := by decide +kernel
theorem dX7_withCourse_9 : decode cX7_withCourse 9 = .ok (.invokestatic 15, 3) := by decide +kernel
theorem dX7_withCourse_12 : decode cX7_withCourse 12 = .ok (.iload_n 1, 1) := by decide +kernel
theorem dX7_withCourse_13 : decode cX7_withCourse 13 = .ok (.iload_n 2, 1) := by decide +kernel
theorem dX7_withCourse_14 : decode cX7_withCourse 14 = .ok (.ishl, 1) := by decide +kernel
theorem dX7_withCourse_15 : decode cX7_withCourse 15 = .ok (.ior, 1) := by decide +kernel
theorem dX7_withCourse_16 : decode cX7_withCourse 16 = .ok (.invokestatic 18, 3) := by decide +kernel
theorem dX7_withCourse_19 : decode cX7_withCourse 19 = .ok (.ireturn, 1) := by decide +kernel
theorem dX7_behindRain_0 : decode cX7_behindRain 0 = .ok (.iload_n 0, 1) := by decide +kernel
theorem dX7_behindRain_1 : decode cX7_behindRain 1 = .ok (.iconst (-1), 1) := by decide +kernel
theorem dX7_behindRain_2 : decode cX7_behindRain 2 = .ok (.ixor, 1) := by decide +kernel
theorem dX7_behindRain_3 : decode cX7_behindRain 3 = .ok (.iload_n 0, 1) := by decide +kernel
theorem dX7_behindRain_4 : decode cX7_behindRain 4 = .ok (.iconst 1, 1) := by decide +kernel
theorem dX7_behindRain_5 : decode cX7_behindRain 5 = .ok (.iadd, 1) := by decide +kernel
theorem dX7_behindRain_6 : decode cX7_behindRain 6 = .ok (.iand, 1) := by decide +kernel
theorem dX7_behindRain_7 : decode cX7_behindRain 7 = .ok (.istore_n 1, 1) := by decide +kernel
theorem dX7_behindRain_8 : decode cX7_behindRain 8 = .ok (.iload_n 1, 1) := by decide +kernel
theorem dX7_behindRain_9 : decode cX7_behindRain 9 = .ok (.iload_n 0, 1) := by decide +kernel
theorem dX7_behindRain_10 : decode cX7_behindRain 10 = .ok (.if_icmp .le 5, 3) := by decide +kernel
theorem dX7_behindRain_13 : decode cX7_behindRain 13 = .ok (.iload_n 0, 1) := by decide +kernel
theorem dX7_behindRain_14 : decode cX7_behindRain 14 = .ok (.ireturn, 1) := by decide +kernel
theorem dX7_behindRain_15 : decode cX7_behindRain 15 = .ok (.iload_n 0, 1) := by decide +kernel
theorem dX7_behindRain_16 : decode cX7_behindRain 16 = .ok (.iload_n 1, 1) := by decide +kernel
theorem dX7_behindRain_17 : decode cX7_behindRain 17 = .ok (.iconst 1, 1) := by decide +kernel
theorem dX7_behindRain_18 : decode cX7_behindRain 18 = .ok (.isub, 1) := by decide +kernel
theorem dX7_behindRain_19 : decode cX7_behindRain 19 = .ok (.iand, 1) := by decide +kernel
theorem dX7_behindRain_20 : decode cX7_behindRain 20 = .ok (.istore_n 2, 1) := by decide +kernel
theorem dX7_behindRain_21 : decode cX7_behindRain 21 = .ok (.iload_n 0, 1) := by decide +kernel
theorem dX7_behindRain_22 : decode cX7_behindRain 22 = .ok (.iload_n 1, 1) := by decide +kernel
theorem dX7_behindRain_23 : decode cX7_behindRain 23 = .ok (.ineg, 1) := by decide +kernel
theorem dX7_behindRain_24 : decode cX7_behindRain 24 = .ok (.iand, 1) := by decide +kernel
theorem dX7_behindRain_25 : decode cX7_behindRain 25 = .ok (.istore_n 3, 1) := by decide +kernel
theorem dX7_behindRain_26 : decode cX7_behindRain 26 = .ok (.iload_n 3, 1) := by decide +kernel
theorem dX7_behindRain_27 : decode cX7_behindRain 27 = .ok (.iconst 1, 1) := by decide +kernel
theorem dX7_behindRain_28 : decode cX7_behindRain 28 = .ok (.ishr, 1) := by decide +kernel
theorem dX7_behindRain_29 : decode cX7_behindRain 29 = .ok (.iload_n 2, 1) := by decide +kernel
theorem dX7_behindRain_30 : decode cX7_behindRain 30 = .ok (.ior, 1) := by decide +kernel
theorem dX7_behindRain_31 : decode cX7_behindRain 31 = .ok (.ireturn, 1) := by decide +kernel
theorem dX7_behindRains_0 : decode cX7_behindRains 0 = .ok (.iload_n 0, 1) := by decide +kernel
theorem dX7_behindRains_1 : decode cX7_behindRains 1 = .ok (.istore_n 2, 1) := by decide +kernel
theorem dX7_behindRains_2 : decode cX7_behindRains 2 = .ok (.iconst 0, 1) := by decide +kernel
theorem dX7_behindRains_3 : decode cX7_behindRains 3 = .ok (.istore_n 3, 1) := by decide +kernel
theorem dX7_behindRains_4 : decode cX7_behindRains 4 = .ok (.iload_n 3, 1) := by decide +kernel
theorem dX7_behindRains_5 : decode cX7_behindRains 5 = .ok (.iload_n 1, 1) := by decide +kernel
theorem dX7_behindRains_6 : decode cX7_behindRains 6 = .ok (.if_icmp .ge 14, 3) := by decide +kernel
theorem dX7_behindRains_9 : decode cX7_behindRains 9 = .ok (.iload_n 2, 1) := by decide +kernel
theorem dX7_behindRains_10 : decode cX7_behindRains 10 = .ok (.invokestatic 22, 3) := by decide +kernel
theorem dX7_behindRains_13 : decode cX7_behindRains 13 = .ok (.istore_n 2, 1) := by decide +kernel
theorem dX7_behindRains_14 : decode cX7_behindRains 14 = .ok (.iinc 3 1, 3) := by decide +kernel
theorem dX7_behindRains_17 : decode cX7_behindRains 17 = .ok (.goto (-13), 3) := by decide +kernel
theorem dX7_behindRains_20 : decode cX7_behindRains 20 = .ok (.iload_n 2, 1) := by decide +kernel
theorem dX7_behindRains_21 : decode cX7_behindRains 21 = .ok (.ireturn, 1) := by decide +kernel
theorem dX7_courseAt_0 : decode cX7_courseAt 0 = .ok (.iload_n 1, 1) := by decide +kernel
theorem dX7_courseAt_1 : decode cX7_courseAt 1 = .ok (.iload_n 0, 1) := by decide +kernel
theorem dX7_courseAt_2 : decode cX7_courseAt 2 = .ok (.invokestatic 9, 3) := by decide +kernel
theorem dX7_courseAt_5 : decode cX7_courseAt 5 = .ok (.if_icmp .lt 7, 3) := by decide +kernel
theorem dX7_courseAt_8 : decode cX7_courseAt 8 = .ok (.iconst 2, 1) := by decide +kernel
theorem dX7_courseAt_9 : decode cX7_courseAt 9 = .ok (.goto 8, 3) := by decide +kernel
theorem dX7_courseAt_12 : decode cX7_courseAt 12 = .ok (.iload_n 0, 1) := by decide +kernel
theorem dX7_courseAt_13 : decode cX7_courseAt 13 = .ok (.iload_n 1, 1) := by decide +kernel
theorem dX7_courseAt_14 : decode cX7_courseAt 14 = .ok (.ishr, 1) := by decide +kernel
theorem dX7_courseAt_15 : decode cX7_courseAt 15 = .ok (.iconst 1, 1) := by decide +kernel
theorem dX7_courseAt_16 : decode cX7_courseAt 16 = .ok (.iand, 1) := by decide +kernel
theorem dX7_courseAt_17 : decode cX7_courseAt 17 = .ok (.ireturn, 1) := by decide +kernel
theorem dX8_init_0 : decode cX8_init 0 = .ok (.aload_n 0, 1) := by decide +kernel
theorem dX8_init_1 : decode cX8_init 1 = .ok (.invokespecial 3, 3) := by decide +kernel
theorem dX8_init_4 : decode cX8_init 4 = .ok (.aload_n 0, 1) := by decide +kernel
theorem dX8_init_5 : decode cX8_init 5 = .ok (.iconst 3, 1) := by decide +kernel
theorem dX8_init_6 : decode cX8_init 6 = .ok (.newarray .int, 2) := by decide +kernel
theorem dX8_init_8 : decode cX8_init 8 = .ok (.putfield 9, 3) := by decide +kernel
theorem dX8_init_11 : decode cX8_init 11 = .ok (.return_, 1) := by decide +kernel
theorem dX8_reckon_0 : decode cX8_reckon 0 = .ok (.aload_n 2, 1) := by decide +kernel
theorem dX8_reckon_1 : decode cX8_reckon 1 = .ok (.getfield 15, 3) := by decide +kernel
theorem dX8_reckon_4 : decode cX8_reckon 4 = .ok (.iconst 0, 1) := by decide +kernel
theorem dX8_reckon_5 : decode cX8_reckon 5 = .ok (.aload_n 0, 1) := by decide +kernel
theorem dX8_reckon_6 : decode cX8_reckon 6 = .ok (.getfield 9, 3) := by decide +kernel
theorem dX8_reckon_9 : decode cX8_reckon 9 = .ok (.iconst 0, 1) := by decide +kernel
theorem dX8_reckon_10 : decode cX8_reckon 10 = .ok (.iconst 3, 1) := by decide +kernel
theorem dX8_reckon_11 : decode cX8_reckon 11 = .ok (.invokestatic 18, 3) := by decide +kernel
theorem dX8_reckon_14 : decode cX8_reckon 14 = .ok (.aload_n 0, 1) := by decide +kernel
theorem dX8_reckon_15 : decode cX8_reckon 15 = .ok (.aload_n 2, 1) := by decide +kernel
theorem dX8_reckon_16 : decode cX8_reckon 16 = .ok (.getfield 24, 3) := by decide +kernel
theorem dX8_reckon_19 : decode cX8_reckon 19 = .ok (.putfield 28, 3) := by decide +kernel
theorem dX8_reckon_22 : decode cX8_reckon 22 = .ok (.aload_n 0, 1) := by decide +kernel
theorem dX8_reckon_23 : decode cX8_reckon 23 = .ok (.iconst 0, 1) := by decide +kernel
theorem dX8_reckon_24 : decode cX8_reckon 24 = .ok (.putfield 29, 3) := by decide +kernel
theorem dX8_reckon_27 : decode cX8_reckon 27 = .ok (.iconst 0, 1) := by decide +kernel
theorem dX8_reckon_28 : decode cX8_reckon 28 = .ok (.istore 4, 2) := by decide +kernel
theorem dX8_reckon_30 : decode cX8_reckon 30 = .ok (.iload 4, 2) := by decide +kernel
theorem dX8_reckon_32 : decode cX8_reckon 32 = .ok (.aload_n 1, 1) := by decide +kernel
theorem dX8_reckon_33 : decode cX8_reckon 33 = .ok (.getfield 32, 3) := by decide +kernel
theorem dX8_reckon_36 : decode cX8_reckon 36 = .ok (.if_icmp .ge 55, 3) := by decide +kernel
theorem dX8_reckon_39 : decode cX8_reckon 39 = .ok (.iload 4, 2) := by decide +kernel
theorem dX8_reckon_41 : decode cX8_reckon 41 = .ok (.aload_n 3, 1) := by decide +kernel
theorem dX8_reckon_42 : decode cX8_reckon 42 = .ok (.arraylength, 1) := by decide +kernel
theorem dX8_reckon_43 : decode cX8_reckon 43 = .ok (.if_icmp .ge 48, 3) := by decide +kernel
theorem dX8_reckon_46 : decode cX8_reckon 46 = .ok (.aload_n 3, 1) := by decide +kernel
theorem dX8_reckon_47 : decode cX8_reckon 47 = .ok (.iload 4, 2) := by decide +kernel
theorem dX8_reckon_49 : decode cX8_reckon 49 = .ok (.iaload, 1) := by decide +kernel
theorem dX8_reckon_50 : decode cX8_reckon 50 = .ok (.iconst 1, 1) := by decide +kernel
theorem dX8_reckon_51 : decode cX8_reckon 51 = .ok (.if_icmp .ne 21, 3) := by decide +kernel
theorem dX8_reckon_54 : decode cX8_reckon 54 = .ok (.aload_n 0, 1) := by decide +kernel
theorem dX8_reckon_55 : decode cX8_reckon 55 = .ok (.dup, 1) := by decide +kernel
theorem dX8_reckon_56 : decode cX8_reckon 56 = .ok (.getfield 29, 3) := by decide +kernel
theorem dX8_reckon_59 : decode cX8_reckon 59 = .ok (.aload_n 1, 1) := by decide +kernel
theorem dX8_reckon_60 : decode cX8_reckon 60 = .ok (.iload 4, 2) := by decide +kernel
theorem dX8_reckon_62 : decode cX8_reckon 62 = .ok (.invokevirtual 37, 3) := by decide +kernel
theorem dX8_reckon_65 : decode cX8_reckon 65 = .ok (.iadd, 1) := by decide +kernel
theorem dX8_reckon_66 : decode cX8_reckon 66 = .ok (.putfield 29, 3) := by decide +kernel
theorem dX8_reckon_69 : decode cX8_reckon 69 = .ok (.goto 16, 3) := by decide +kernel
theorem dX8_reckon_72 : decode cX8_reckon 72 = .ok (.aload_n 0, 1) := by decide +kernel
theorem dX8_reckon_73 : decode cX8_reckon 73 = .ok (.aload_n 1, 1) := by decide +kernel
theorem dX8_reckon_74 : decode cX8_reckon 74 = .ok (.iload 4, 2) := by decide +kernel
theorem dX8_reckon_76 : decode cX8_reckon 76 = .ok (.aload_n 3, 1) := by decide +kernel
theorem dX8_reckon_77 : decode cX8_reckon 77 = .ok (.iload 4, 2) := by decide +kernel
theorem dX8_reckon_79 : decode cX8_reckon 79 = .ok (.iaload, 1) := by decide +kernel
theorem dX8_reckon_80 : decode cX8_reckon 80 = .ok (.iconst 2, 1) := by decide +kernel
theorem dX8_reckon_81 : decode cX8_reckon 81 = .ok (.isub, 1) := by decide +kernel
theorem dX8_reckon_82 : decode cX8_reckon 82 = .ok (.invokevirtual 41, 3) := by decide +kernel
theorem dX8_reckon_85 : decode cX8_reckon 85 = .ok (.iinc 4 1, 3) := by decide +kernel
theorem dX8_reckon_88 : decode cX8_reckon 88 = .ok (.goto (-58), 3) := by decide +kernel
theorem dX8_reckon_91 : decode cX8_reckon 91 = .ok (.aload_n 0, 1) := by decide +kernel
theorem dX8_reckon_92 : decode cX8_reckon 92 = .ok (.aload_n 0, 1) := by decide +kernel
theorem dX8_reckon_93 : decode cX8_reckon 93 = .ok (.getfield 29, 3) := by decide +kernel
theorem dX8_reckon_96 : decode cX8_reckon 96 = .ok (.bipush 9, 2) := by decide +kernel
theorem dX8_reckon_98 : decode cX8_reckon 98 = .ok (.invokestatic 45, 3) := by decide +kernel
theorem dX8_reckon_101 : decode cX8_reckon 101 = .ok (.putfield 29, 3) := by decide +kernel
theorem dX8_reckon_104 : decode cX8_reckon 104 = .ok (.aload_n 0, 1) := by decide +kernel
theorem dX8_reckon_105 : decode cX8_reckon 105 = .ok (.aload_n 0, 1) := by decide +kernel
theorem dX8_reckon_106 : decode cX8_reckon 106 = .ok (.getfield 29, 3) := by decide +kernel
theorem dX8_reckon_109 : decode cX8_reckon 109 = .ok (.aload_n 0, 1) := by decide +kernel
theorem dX8_reckon_110 : decode cX8_reckon 110 = .ok (.getfield 28, 3) := by decide +kernel
theorem dX8_reckon_113 : decode cX8_reckon 113 = .ok (.invokestatic 45, 3) := by decide +kernel
theorem dX8_reckon_116 : decode cX8_reckon 116 = .ok (.putfield 51, 3) := by decide +kernel
theorem dX8_reckon_119 : decode cX8_reckon 119 = .ok (.aload_n 0, 1) := by decide +kernel
theorem dX8_reckon_120 : decode cX8_reckon 120 = .ok (.dup, 1) := by decide +kernel
theorem dX8_reckon_121 : decode cX8_reckon 121 = .ok (.getfield 28, 3) := by decide +kernel
theorem dX8_reckon_124 : decode cX8_reckon 124 = .ok (.aload_n 0, 1) := by decide +kernel
theorem dX8_reckon_125 : decode cX8_reckon 125 = .ok (.getfield 51, 3) := by decide +kernel
theorem dX8_reckon_128 : decode cX8_reckon 128 = .ok (.isub, 1) := by decide +kernel
theorem dX8_reckon_129 : decode cX8_reckon 129 = .ok (.putfield 28, 3) := by decide +kernel
theorem dX8_reckon_132 : decode cX8_reckon 132 = .ok (.return_, 1) := by decide +kernel
theorem dX8_gather_0 : decode cX8_gather 0 = .ok (.aload_n 1, 1) := by decide +kernel
theorem dX8_gather_1 : decode cX8_gather 1 = .ok (.iload_n 3, 1) := by decide +kernel
theorem dX8_gather_2 : decode cX8_gather 2 = .ok (.invokevirtual 54, 3) := by decide +kernel
theorem dX8_gather_5 : decode cX8_gather 5 = .ok (.ifCond .eq 42, 3) := by decide +kernel
theorem dX8_gather_8 : decode cX8_gather 8 = .ok (.aload_n 1, 1) := by decide +kernel
theorem dX8_gather_9 : decode cX8_gather 9 = .ok (.iload_n 2, 1) := by decide +kernel
theorem dX8_gather_10 : decode cX8_gather 10 = .ok (.iload_n 3, 1) := by decide +kernel
theorem dX8_gather_11 : decode cX8_gather 11 = .ok (.invokevirtual 58, 3) := by decide +kernel
theorem dX8_gather_14 : decode cX8_gather 14 = .ok (.aload_n 0, 1) := by decide +kernel
theorem dX8_gather_15 : decode cX8_gather 15 = .ok (.getfield 9, 3) := by decide +kernel
theorem dX8_gather_18 : decode cX8_gather 18 = .ok (.iload_n 3, 1) := by decide +kernel
theorem dX8_gather_19 : decode cX8_gather 19 = .ok (.iaload, 1) := by decide +kernel
theorem dX8_gather_20 : decode cX8_gather 20 = .ok (.invokestatic 45, 3) := by decide +kernel
theorem dX8_gather_23 : decode cX8_gather 23 = .ok (.istore 4, 2) := by decide +kernel
theorem dX8_gather_25 : decode cX8_gather 25 = .ok (.aload_n 0, 1) := by decide +kernel
theorem dX8_gather_26 : decode cX8_gather 26 = .ok (.getfield 9, 3) := by decide +kernel
theorem dX8_gather_29 : decode cX8_gather 29 = .ok (.iload_n 3, 1) := by decide +kernel
theorem dX8_gather_30 : decode cX8_gather 30 = .ok (.dup2, 1) := by decide +kernel
theorem dX8_gather_31 : decode cX8_gather 31 = .ok (.iaload, 1) := by decide +kernel
theorem dX8_gather_32 : decode cX8_gather 32 = .ok (.iload 4, 2) := by decide +kernel
theorem dX8_gather_34 : decode cX8_gather 34 = .ok (.isub, 1) := by decide +kernel
theorem dX8_gather_35 : decode cX8_gather 35 = .ok (.iastore, 1) := by decide +kernel
theorem dX8_gather_36 : decode cX8_gather 36 = .ok (.aload_n 0, 1) := by decide +kernel
theorem dX8_gather_37 : decode cX8_gather 37 = .ok (.dup, 1) := by decide +kernel
theorem dX8_gather_38 : decode cX8_gather 38 = .ok (.getfield 28, 3) := by decide +kernel
theorem dX8_gather_41 : decode cX8_gather 41 = .ok (.iload 4, 2) := by decide +kernel
theorem dX8_gather_43 : decode cX8_gather 43 = .ok (.iadd, 1) := by decide +kernel
theorem dX8_gather_44 : decode cX8_gather 44 = .ok (.putfield 28, 3) := by decide +kernel
theorem dX8_gather_47 : decode cX8_gather 47 = .ok (.return_, 1) := by decide +kernel
theorem dX9_init_0 : decode cX9_init 0 = .ok (.aload_n 0, 1) := by decide +kernel
theorem dX9_init_1 : decode cX9_init 1 = .ok (.invokespecial 1, 3) := by decide +kernel
theorem dX9_init_4 : decode cX9_init 4 = .ok (.aload_n 0, 1) := by decide +kernel
theorem dX9_init_5 : decode cX9_init 5 = .ok (.new 7, 3) := by decide +kernel
theorem dX9_init_8 : decode cX9_init 8 = .ok (.dup, 1) := by decide +kernel
theorem dX9_init_9 : decode cX9_init 9 = .ok (.invokespecial 9, 3) := by decide +kernel
theorem dX9_init_12 : decode cX9_init 12 = .ok (.putfield 10, 3) := by decide +kernel
theorem dX9_init_15 : decode cX9_init 15 = .ok (.aload_n 0, 1) := by decide +kernel
theorem dX9_init_16 : decode cX9_init 16 = .ok (.new 16, 3) := by decide +kernel
theorem dX9_init_19 : decode cX9_init 19 = .ok (.dup, 1) := by decide +kernel
theorem dX9_init_20 : decode cX9_init 20 = .ok (.invokespecial 18, 3) := by decide +kernel
theorem dX9_init_23 : decode cX9_init 23 = .ok (.putfield 19, 3) := by decide +kernel
theorem dX9_init_26 : decode cX9_init 26 = .ok (.aload_n 0, 1) := by decide +kernel
theorem dX9_init_27 : decode cX9_init 27 = .ok (.new 23, 3) := by decide +kernel
theorem dX9_init_30 : decode cX9_init 30 = .ok (.dup, 1) := by decide +kernel
theorem dX9_init_31 : decode cX9_init 31 = .ok (.invokespecial 25, 3) := by decide +kernel
theorem dX9_init_34 : decode cX9_init 34 = .ok (.putfield 26, 3) := by decide +kernel
theorem dX9_init_37 : decode cX9_init 37 = .ok (.aload_n 0, 1) := by decide +kernel
theorem dX9_init_38 : decode cX9_init 38 = .ok (.new 23, 3) := by decide +kernel
theorem dX9_init_41 : decode cX9_init 41 = .ok (.dup, 1) := by decide +kernel
theorem dX9_init_42 : decode cX9_init 42 = .ok (.invokespecial 25, 3) := by decide +kernel
theorem dX9_init_45 : decode cX9_init 45 = .ok (.putfield 30, 3) := by decide +kernel
theorem dX9_init_48 : decode cX9_init 48 = .ok (.aload_n 0, 1) := by decide +kernel
theorem dX9_init_49 : decode cX9_init 49 = .ok (.new 33, 3) := by decide +kernel
theorem dX9_init_52 : decode cX9_init 52 = .ok (.dup, 1) := by decide +kernel
theorem dX9_init_53 : decode cX9_init 53 = .ok (.invokespecial 35, 3) := by decide +kernel
theorem dX9_init_56 : decode cX9_init 56 = .ok (.putfield 36, 3) := by decide +kernel
theorem dX9_init_59 : decode cX9_init 59 = .ok (.aload_n 0, 1) := by decide +kernel
theorem dX9_init_60 : decode cX9_init 60 = .ok (.new 40, 3) := by decide +kernel
theorem dX9_init_63 : decode cX9_init 63 = .ok (.dup, 1) := by decide +kernel
theorem dX9_init_64 : decode cX9_init 64 = .ok (.invokespecial 42, 3) := by decide +kernel
theorem dX9_init_67 : decode cX9_init 67 = .ok (.putfield 43, 3) := by decide +kernel
theorem dX9_init_70 : decode cX9_init 70 = .ok (.aload_n 0, 1) := by decide +kernel
theorem dX9_init_71 : decode cX9_init 71 = .ok (.new 47, 3) := by decide +kernel
theorem dX9_init_74 : decode cX9_init 74 = .ok (.dup, 1) := by decide +kernel
theorem dX9_init_75 : decode cX9_init 75 = .ok (.invokespecial 49, 3) := by decide +kernel
theorem dX9_init_78 : decode cX9_init 78 = .ok (.putfield 50, 3) := by decide +kernel
theorem dX9_init_81 : decode cX9_init 81 = .ok (.aload_n 0, 1) := by decide +kernel
theorem dX9_init_82 : decode cX9_init 82 = .ok (.new 54, 3) := by decide +kernel
theorem dX9_init_85 : decode cX9_init 85 = .ok (.dup, 1) := by decide +kernel
theorem dX9_init_86 : decode cX9_init 86 = .ok (.invokespecial 56, 3) := by decide +kernel
theorem dX9_init_89 : decode cX9_init 89 = .ok (.putfield 57, 3) := by decide +kernel
theorem dX9_init_92 : decode cX9_init 92 = .ok (.aload_n 0, 1) := by decide +kernel
theorem dX9_init_93 : decode cX9_init 93 = .ok (.new 61, 3) := by decide +kernel
theorem dX9_init_96 : decode cX9_init 96 = .ok (.dup, 1) := by decide +kernel
theorem dX9_init_97 : decode cX9_init 97 = .ok (.invokespecial 63, 3) := by decide +kernel
theorem dX9_init_100 : decode cX9_init 100 = .ok (.putfield 64, 3) := by decide +kernel
theorem dX9_init_103 : decode cX9_init 103 = .ok (.return_, 1) := by decide +kernel
theorem dX9_write_0 : decode cX9_write 0 = .ok (.iload_n 1, 1) := by decide +kernel
theorem dX9_write_1 : decode cX9_write 1 = .ok (.ifCond .lt 10, 3) := by decide +kernel
theorem dX9_write_4 : decode cX9_write 4 = .ok (.iload_n 1, 1) := by decide +kernel
theorem dX9_write_5 : decode cX9_write 5 = .ok (.sipush 255, 3) := by decide +kernel
theorem dX9_write_8 : decode cX9_write 8 = .ok (.if_icmp .le 6, 3) := by decide +kernel
theorem dX9_write_11 : decode cX9_write 11 = .ok (.bipush (-2), 2) := by decide +kernel
theorem dX9_write_13 : decode cX9_write 13 = .ok (.ireturn, 1) := by decide +kernel
theorem dX9_write_14 : decode cX9_write 14 = .ok (.aload_n 0, 1) := by decide +kernel
theorem dX9_write_15 : decode cX9_write 15 = .ok (.getfield 10, 3) := by decide +kernel
theorem dX9_write_18 : decode cX9_write 18 = .ok (.iload_n 1, 1) := by decide +kernel
theorem dX9_write_19 : decode cX9_write 19 = .ok (.invokevirtual 68, 3) := by decide +kernel
theorem dX9_write_22 : decode cX9_write 22 = .ok (.ifCond .eq 13, 3) := by decide +kernel
theorem dX9_write_25 : decode cX9_write 25 = .ok (.aload_n 0, 1) := by decide +kernel
theorem dX9_write_26 : decode cX9_write 26 = .ok (.getfield 10, 3) := by decide +kernel
theorem dX9_write_29 : decode cX9_write 29 = .ok (.getfield 72, 3) := by decide +kernel
theorem dX9_write_32 : decode cX9_write 32 = .ok (.goto 5, 3) := by decide +kernel
theorem dX9_write_35 : decode cX9_write 35 = .ok (.bipush (-4), 2) := by decide +kernel
theorem dX9_write_37 : decode cX9_write 37 = .ok (.ireturn, 1) := by decide +kernel
theorem dX9_wipe_0 : decode cX9_wipe 0 = .ok (.aload_n 0, 1) := by decide +kernel
theorem dX9_wipe_1 : decode cX9_wipe 1 = .ok (.getfield 10, 3) := by decide +kernel
theorem dX9_wipe_4 : decode cX9_wipe 4 = .ok (.getfield 72, 3) := by decide +kernel
theorem dX9_wipe_7 : decode cX9_wipe 7 = .ok (.istore_n 1, 1) := by decide +kernel
theorem dX9_wipe_8 : decode cX9_wipe 8 = .ok (.aload_n 0, 1) := by decide +kernel
theorem dX9_wipe_9 : decode cX9_wipe 9 = .ok (.getfield 10, 3) := by decide +kernel
theorem dX9_wipe_12 : decode cX9_wipe 12 = .ok (.iconst 0, 1) := by decide +kernel
theorem dX9_wipe_13 : decode cX9_wipe 13 = .ok (.putfield 72, 3) := by decide +kernel
theorem dX9_wipe_16 : decode cX9_wipe 16 = .ok (.iload_n 1, 1) := by decide +kernel
theorem dX9_wipe_17 : decode cX9_wipe 17 = .ok (.ireturn, 1) := by decide +kernel
theorem dX9_fault_0 : decode cX9_fault 0 = .ok (.aload_n 0, 1) := by decide +kernel
theorem dX9_fault_1 : decode cX9_fault 1 = .ok (.getfield 10, 3) := by decide +kernel
theorem dX9_fault_4 : decode cX9_fault 4 = .ok (.invokevirtual 76, 3) := by decide +kernel
theorem dX9_fault_7 : decode cX9_fault 7 = .ok (.ireturn, 1) := by decide +kernel
theorem dX9_pit_0 : decode cX9_pit 0 = .ok (.aload_n 0, 1) := by decide +kernel
theorem dX9_pit_1 : decode cX9_pit 1 = .ok (.getfield 10, 3) := by decide +kernel
theorem dX9_pit_4 : decode cX9_pit 4 = .ok (.invokevirtual 76, 3) := by decide +kernel
theorem dX9_pit_7 : decode cX9_pit 7 = .ok (.bipush (-9), 2) := by decide +kernel
theorem dX9_pit_9 : decode cX9_pit 9 = .ok (.if_icmp .eq 6, 3) := by decide +kernel
theorem dX9_pit_12 : decode cX9_pit 12 = .ok (.bipush (-3), 2) := by decide +kernel
theorem dX9_pit_14 : decode cX9_pit 14 = .ok (.ireturn, 1) := by decide +kernel
theorem dX9_pit_15 : decode cX9_pit 15 = .ok (.aload_n 0, 1) := by decide +kernel
theorem dX9_pit_16 : decode cX9_pit 16 = .ok (.getfield 19, 3) := by decide +kernel
theorem dX9_pit_19 : decode cX9_pit 19 = .ok (.aload_n 0, 1) := by decide +kernel
theorem dX9_pit_20 : decode cX9_pit 20 = .ok (.getfield 10, 3) := by decide +kernel
theorem dX9_pit_23 : decode cX9_pit 23 = .ok (.invokevirtual 80, 3) := by decide +kernel
theorem dX9_pit_26 : decode cX9_pit 26 = .ok (.aload_n 0, 1) := by decide +kernel
theorem dX9_pit_27 : decode cX9_pit 27 = .ok (.getfield 26, 3) := by decide +kernel
theorem dX9_pit_30 : decode cX9_pit 30 = .ok (.aload_n 0, 1) := by decide +kernel
theorem dX9_pit_31 : decode cX9_pit 31 = .ok (.getfield 19, 3) := by decide +kernel
theorem dX9_pit_34 : decode cX9_pit 34 = .ok (.invokevirtual 84, 3) := by decide +kernel
theorem dX9_pit_37 : decode cX9_pit 37 = .ok (.aload_n 0, 1) := by decide +kernel
theorem dX9_pit_38 : decode cX9_pit 38 = .ok (.getfield 50, 3) := by decide +kernel
theorem dX9_pit_41 : decode cX9_pit 41 = .ok (.invokevirtual 88, 3) := by decide +kernel
theorem dX9_pit_44 : decode cX9_pit 44 = .ok (.aload_n 0, 1) := by decide +kernel
theorem dX9_pit_45 : decode cX9_pit 45 = .ok (.getfield 57, 3) := by decide +kernel
theorem dX9_pit_48 : decode cX9_pit 48 = .ok (.invokevirtual 91, 3) := by decide +kernel
theorem dX9_pit_51 : decode cX9_pit 51 = .ok (.bipush 10, 2) := by decide +kernel
theorem dX9_pit_53 : decode cX9_pit 53 = .ok (.aload_n 0, 1) := by decide +kernel
theorem dX9_pit_54 : decode cX9_pit 54 = .ok (.getfield 19, 3) := by decide +kernel
theorem dX9_pit_57 : decode cX9_pit 57 = .ok (.getfield 92, 3) := by decide +kernel
theorem dX9_pit_60 : decode cX9_pit 60 = .ok (.imul, 1) := by decide +kernel
theorem dX9_pit_61 : decode cX9_pit 61 = .ok (.aload_n 0, 1) := by decide +kernel
theorem dX9_pit_62 : decode cX9_pit 62 = .ok (.getfield 19, 3) := by decide +kernel
theorem dX9_pit_65 : decode cX9_pit 65 = .ok (.getfield 95, 3) := by decide +kernel
theorem dX9_pit_68 : decode cX9_pit 68 = .ok (.iadd, 1) := by decide +kernel
theorem dX9_pit_69 : decode cX9_pit 69 = .ok (.ireturn, 1) := by decide +kernel
theorem dX9_about_0 : decode cX9_about 0 = .ok (.iload_n 1, 1) := by decide +kernel
theorem dX9_about_1 : decode cX9_about 1 = .ok (.tableswitch 189 0 13 #[71, 79, 87, 95, 103, 111, 119, 127, 138, 149, 157, 165, 173, 181], 71) := by decide +kernel
theorem dX9_about_72 : decode cX9_about 72 = .ok (.aload_n 0, 1) := by decide +kernel
theorem dX9_about_73 : decode cX9_about 73 = .ok (.getfield 19, 3) := by decide +kernel
theorem dX9_about_76 : decode cX9_about 76 = .ok (.getfield 92, 3) := by decide +kernel
theorem dX9_about_79 : decode cX9_about 79 = .ok (.ireturn, 1) := by decide +kernel
theorem dX9_about_80 : decode cX9_about 80 = .ok (.aload_n 0, 1) := by decide +kernel
theorem dX9_about_81 : decode cX9_about 81 = .ok (.getfield 19, 3) := by decide +kernel
theorem dX9_about_84 : decode cX9_about 84 = .ok (.getfield 95, 3) := by decide +kernel
theorem dX9_about_87 : decode cX9_about 87 = .ok (.ireturn, 1) := by decide +kernel
theorem dX9_about_88 : decode cX9_about 88 = .ok (.aload_n 0, 1) := by decide +kernel
