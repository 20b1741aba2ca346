theorem dX0_init_0 : decode cX0_init 0 = .ok (.aload_n 0, 1) := by decide +kernel
theorem dX0_init_1 : decode cX0_init 1 = .ok (.invokespecial 3, 3) := by decide +kernel
theorem dX0_init_4 : decode cX0_init 4 = .ok (.aload_n 0, 1) := by decide +kernel
theorem dX0_init_5 : decode cX0_init 5 = .ok (.bipush 60, 2) := by decide +kernel
theorem dX0_init_7 : decode cX0_init 7 = .ok (.anewarray 9, 3) := by decide +kernel
theorem dX0_init_10 : decode cX0_init 10 = .ok (.putfield 11, 3) := by decide +kernel
theorem dX0_init_13 : decode cX0_init 13 = .ok (.iconst 0, 1) := by decide +kernel
theorem dX0_init_14 : decode cX0_init 14 = .ok (.istore_n 1, 1) := by decide +kernel
theorem dX0_init_15 : decode cX0_init 15 = .ok (.iload_n 1, 1) := by decide +kernel
theorem dX0_init_16 : decode cX0_init 16 = .ok (.bipush 60, 2) := by decide +kernel
theorem dX0_init_18 : decode cX0_init 18 = .ok (.if_icmp .ge 22, 3) := by decide +kernel
theorem dX0_init_21 : decode cX0_init 21 = .ok (.aload_n 0, 1) := by decide +kernel
theorem dX0_init_22 : decode cX0_init 22 = .ok (.getfield 11, 3) := by decide +kernel
theorem dX0_init_25 : decode cX0_init 25 = .ok (.iload_n 1, 1) := by decide +kernel
theorem dX0_init_26 : decode cX0_init 26 = .ok (.new 9, 3) := by decide +kernel
theorem dX0_init_29 : decode cX0_init 29 = .ok (.dup, 1) := by decide +kernel
theorem dX0_init_30 : decode cX0_init 30 = .ok (.invokespecial 17, 3) := by decide +kernel
theorem dX0_init_33 : decode cX0_init 33 = .ok (.aastore, 1) := by decide +kernel
theorem dX0_init_34 : decode cX0_init 34 = .ok (.iinc 1 1, 3) := by decide +kernel
theorem dX0_init_37 : decode cX0_init 37 = .ok (.goto (-22), 3) := by decide +kernel
theorem dX0_init_40 : decode cX0_init 40 = .ok (.aload_n 0, 1) := by decide +kernel
theorem dX0_init_41 : decode cX0_init 41 = .ok (.iconst (-1), 1) := by decide +kernel
theorem dX0_init_42 : decode cX0_init 42 = .ok (.putfield 18, 3) := by decide +kernel
theorem dX0_init_45 : decode cX0_init 45 = .ok (.aload_n 0, 1) := by decide +kernel
theorem dX0_init_46 : decode cX0_init 46 = .ok (.iconst (-1), 1) := by decide +kernel
theorem dX0_init_47 : decode cX0_init 47 = .ok (.putfield 22, 3) := by decide +kernel
theorem dX0_init_50 : decode cX0_init 50 = .ok (.return_, 1) := by decide +kernel
theorem dX0_copyFrom_0 : decode cX0_copyFrom 0 = .ok (.iconst 0, 1) := by decide +kernel
theorem dX0_copyFrom_1 : decode cX0_copyFrom 1 = .ok (.istore_n 2, 1) := by decide +kernel
theorem dX0_copyFrom_2 : decode cX0_copyFrom 2 = .ok (.iload_n 2, 1) := by decide +kernel
theorem dX0_copyFrom_3 : decode cX0_copyFrom 3 = .ok (.bipush 60, 2) := by decide +kernel
theorem dX0_copyFrom_5 : decode cX0_copyFrom 5 = .ok (.if_icmp .ge 24, 3) := by decide +kernel
theorem dX0_copyFrom_8 : decode cX0_copyFrom 8 = .ok (.aload_n 0, 1) := by decide +kernel
theorem dX0_copyFrom_9 : decode cX0_copyFrom 9 = .ok (.getfield 11, 3) := by decide +kernel
theorem dX0_copyFrom_12 : decode cX0_copyFrom 12 = .ok (.iload_n 2, 1) := by decide +kernel
theorem dX0_copyFrom_13 : decode cX0_copyFrom 13 = .ok (.aaload, 1) := by decide +kernel
theorem dX0_copyFrom_14 : decode cX0_copyFrom 14 = .ok (.aload_n 1, 1) := by decide +kernel
theorem dX0_copyFrom_15 : decode cX0_copyFrom 15 = .ok (.getfield 11, 3) := by decide +kernel
theorem dX0_copyFrom_18 : decode cX0_copyFrom 18 = .ok (.iload_n 2, 1) := by decide +kernel
theorem dX0_copyFrom_19 : decode cX0_copyFrom 19 = .ok (.aaload, 1) := by decide +kernel
theorem dX0_copyFrom_20 : decode cX0_copyFrom 20 = .ok (.invokevirtual 25, 3) := by decide +kernel
theorem dX0_copyFrom_23 : decode cX0_copyFrom 23 = .ok (.iinc 2 1, 3) := by decide +kernel
theorem dX0_copyFrom_26 : decode cX0_copyFrom 26 = .ok (.goto (-24), 3) := by decide +kernel
theorem dX0_copyFrom_29 : decode cX0_copyFrom 29 = .ok (.aload_n 0, 1) := by decide +kernel
theorem dX0_copyFrom_30 : decode cX0_copyFrom 30 = .ok (.aload_n 1, 1) := by decide +kernel
theorem dX0_copyFrom_31 : decode cX0_copyFrom 31 = .ok (.getfield 29, 3) := by decide +kernel
theorem dX0_copyFrom_34 : decode cX0_copyFrom 34 = .ok (.putfield 29, 3) := by decide +kernel
theorem dX0_copyFrom_37 : decode cX0_copyFrom 37 = .ok (.aload_n 0, 1) := by decide +kernel
theorem dX0_copyFrom_38 : decode cX0_copyFrom 38 = .ok (.aload_n 1, 1) := by decide +kernel
theorem dX0_copyFrom_39 : decode cX0_copyFrom 39 = .ok (.getfield 32, 3) := by decide +kernel
theorem dX0_copyFrom_42 : decode cX0_copyFrom 42 = .ok (.putfield 32, 3) := by decide +kernel
theorem dX0_copyFrom_45 : decode cX0_copyFrom 45 = .ok (.aload_n 0, 1) := by decide +kernel
theorem dX0_copyFrom_46 : decode cX0_copyFrom 46 = .ok (.aload_n 1, 1) := by decide +kernel
theorem dX0_copyFrom_47 : decode cX0_copyFrom 47 = .ok (.getfield 35, 3) := by decide +kernel
theorem dX0_copyFrom_50 : decode cX0_copyFrom 50 = .ok (.putfield 35, 3) := by decide +kernel
theorem dX0_copyFrom_53 : decode cX0_copyFrom 53 = .ok (.aload_n 0, 1) := by decide +kernel
theorem dX0_copyFrom_54 : decode cX0_copyFrom 54 = .ok (.aload_n 1, 1) := by decide +kernel
theorem dX0_copyFrom_55 : decode cX0_copyFrom 55 = .ok (.getfield 18, 3) := by decide +kernel
theorem dX0_copyFrom_58 : decode cX0_copyFrom 58 = .ok (.putfield 18, 3) := by decide +kernel
theorem dX0_copyFrom_61 : decode cX0_copyFrom 61 = .ok (.aload_n 0, 1) := by decide +kernel
theorem dX0_copyFrom_62 : decode cX0_copyFrom 62 = .ok (.aload_n 1, 1) := by decide +kernel
theorem dX0_copyFrom_63 : decode cX0_copyFrom 63 = .ok (.getfield 22, 3) := by decide +kernel
theorem dX0_copyFrom_66 : decode cX0_copyFrom 66 = .ok (.putfield 22, 3) := by decide +kernel
theorem dX0_copyFrom_69 : decode cX0_copyFrom 69 = .ok (.aload_n 0, 1) := by decide +kernel
theorem dX0_copyFrom_70 : decode cX0_copyFrom 70 = .ok (.aload_n 1, 1) := by decide +kernel
theorem dX0_copyFrom_71 : decode cX0_copyFrom 71 = .ok (.getfield 38, 3) := by decide +kernel
theorem dX0_copyFrom_74 : decode cX0_copyFrom 74 = .ok (.putfield 38, 3) := by decide +kernel
theorem dX0_copyFrom_77 : decode cX0_copyFrom 77 = .ok (.aload_n 0, 1) := by decide +kernel
theorem dX0_copyFrom_78 : decode cX0_copyFrom 78 = .ok (.aload_n 1, 1) := by decide +kernel
theorem dX0_copyFrom_79 : decode cX0_copyFrom 79 = .ok (.getfield 41, 3) := by decide +kernel
theorem dX0_copyFrom_82 : decode cX0_copyFrom 82 = .ok (.putfield 41, 3) := by decide +kernel
theorem dX0_copyFrom_85 : decode cX0_copyFrom 85 = .ok (.aload_n 0, 1) := by decide +kernel
theorem dX0_copyFrom_86 : decode cX0_copyFrom 86 = .ok (.aload_n 1, 1) := by decide +kernel
theorem dX0_copyFrom_87 : decode cX0_copyFrom 87 = .ok (.getfield 44, 3) := by decide +kernel
theorem dX0_copyFrom_90 : decode cX0_copyFrom 90 = .ok (.putfield 44, 3) := by decide +kernel
theorem dX0_copyFrom_93 : decode cX0_copyFrom 93 = .ok (.aload_n 0, 1) := by decide +kernel
theorem dX0_copyFrom_94 : decode cX0_copyFrom 94 = .ok (.aload_n 1, 1) := by decide +kernel
theorem dX0_copyFrom_95 : decode cX0_copyFrom 95 = .ok (.getfield 48, 3) := by decide +kernel
theorem dX0_copyFrom_98 : decode cX0_copyFrom 98 = .ok (.putfield 48, 3) := by decide +kernel
theorem dX0_copyFrom_101 : decode cX0_copyFrom 101 = .ok (.return_, 1) := by decide +kernel
theorem dX0_seatAt_0 : decode cX0_seatAt 0 = .ok (.iload_n 1, 1) := by decide +kernel
theorem dX0_seatAt_1 : decode cX0_seatAt 1 = .ok (.ifCond .lt 18, 3) := by decide +kernel
theorem dX0_seatAt_4 : decode cX0_seatAt 4 = .ok (.iload_n 1, 1) := by decide +kernel
theorem dX0_seatAt_5 : decode cX0_seatAt 5 = .ok (.bipush 60, 2) := by decide +kernel
theorem dX0_seatAt_7 : decode cX0_seatAt 7 = .ok (.if_icmp .ge 12, 3) := by decide +kernel
theorem dX0_seatAt_10 : decode cX0_seatAt 10 = .ok (.aload_n 0, 1) := by decide +kernel
theorem dX0_seatAt_11 : decode cX0_seatAt 11 = .ok (.getfield 11, 3) := by decide +kernel
theorem dX0_seatAt_14 : decode cX0_seatAt 14 = .ok (.iload_n 1, 1) := by decide +kernel
theorem dX0_seatAt_15 : decode cX0_seatAt 15 = .ok (.aaload, 1) := by decide +kernel
theorem dX0_seatAt_16 : decode cX0_seatAt 16 = .ok (.goto 4, 3) := by decide +kernel
theorem dX0_seatAt_19 : decode cX0_seatAt 19 = .ok (.aconst_null, 1) := by decide +kernel
theorem dX0_seatAt_20 : decode cX0_seatAt 20 = .ok (.areturn, 1) := by decide +kernel
theorem dX0_memberAt_0 : decode cX0_memberAt 0 = .ok (.aload_n 0, 1) := by decide +kernel
theorem dX0_memberAt_1 : decode cX0_memberAt 1 = .ok (.iload_n 1, 1) := by decide +kernel
theorem dX0_memberAt_2 : decode cX0_memberAt 2 = .ok (.invokevirtual 51, 3) := by decide +kernel
theorem dX0_memberAt_5 : decode cX0_memberAt 5 = .ok (.astore_n 2, 1) := by decide +kernel
theorem dX0_memberAt_6 : decode cX0_memberAt 6 = .ok (.aload_n 2, 1) := by decide +kernel
theorem dX0_memberAt_7 : decode cX0_memberAt 7 = .ok (.ifnull 14, 3) := by decide +kernel
theorem dX0_memberAt_10 : decode cX0_memberAt 10 = .ok (.aload_n 2, 1) := by decide +kernel
theorem dX0_memberAt_11 : decode cX0_memberAt 11 = .ok (.invokevirtual 55, 3) := by decide +kernel
theorem dX0_memberAt_14 : decode cX0_memberAt 14 = .ok (.ifCond .eq 7, 3) := by decide +kernel
theorem dX0_memberAt_17 : decode cX0_memberAt 17 = .ok (.aload_n 2, 1) := by decide +kernel
theorem dX0_memberAt_18 : decode cX0_memberAt 18 = .ok (.goto 4, 3) := by decide +kernel
theorem dX0_memberAt_21 : decode cX0_memberAt 21 = .ok (.aconst_null, 1) := by decide +kernel
theorem dX0_memberAt_22 : decode cX0_memberAt 22 = .ok (.areturn, 1) := by decide +kernel
theorem dX0_placeAt_0 : decode cX0_placeAt 0 = .ok (.aload_n 0, 1) := by decide +kernel
theorem dX0_placeAt_1 : decode cX0_placeAt 1 = .ok (.getfield 29, 3) := by decide +kernel
theorem dX0_placeAt_4 : decode cX0_placeAt 4 = .ok (.ifCond .ne 7, 3) := by decide +kernel
theorem dX0_placeAt_7 : decode cX0_placeAt 7 = .ok (.aconst_null, 1) := by decide +kernel
theorem dX0_placeAt_8 : decode cX0_placeAt 8 = .ok (.goto 8, 3) := by decide +kernel
theorem dX0_placeAt_11 : decode cX0_placeAt 11 = .ok (.aload_n 0, 1) := by decide +kernel
theorem dX0_placeAt_12 : decode cX0_placeAt 12 = .ok (.iload_n 1, 1) := by decide +kernel
theorem dX0_placeAt_13 : decode cX0_placeAt 13 = .ok (.invokevirtual 59, 3) := by decide +kernel
theorem dX0_placeAt_16 : decode cX0_placeAt 16 = .ok (.areturn, 1) := by decide +kernel
theorem dX0_roundIsLeft_0 : decode cX0_roundIsLeft 0 = .ok (.aload_n 0, 1) := by decide +kernel
theorem dX0_roundIsLeft_1 : decode cX0_roundIsLeft 1 = .ok (.getfield 32, 3) := by decide +kernel
theorem dX0_roundIsLeft_4 : decode cX0_roundIsLeft 4 = .ok (.aload_n 0, 1) := by decide +kernel
theorem dX0_roundIsLeft_5 : decode cX0_roundIsLeft 5 = .ok (.getfield 35, 3) := by decide +kernel
theorem dX0_roundIsLeft_8 : decode cX0_roundIsLeft 8 = .ok (.if_icmp .ge 16, 3) := by decide +kernel
theorem dX0_roundIsLeft_11 : decode cX0_roundIsLeft 11 = .ok (.aload_n 0, 1) := by decide +kernel
theorem dX0_roundIsLeft_12 : decode cX0_roundIsLeft 12 = .ok (.getfield 32, 3) := by decide +kernel
theorem dX0_roundIsLeft_15 : decode cX0_roundIsLeft 15 = .ok (.bipush 60, 2) := by decide +kernel
theorem dX0_roundIsLeft_17 : decode cX0_roundIsLeft 17 = .ok (.if_icmp .ge 7, 3) := by decide +kernel
theorem dX0_roundIsLeft_20 : decode cX0_roundIsLeft 20 = .ok (.iconst 1, 1) := by decide +kernel
theorem dX0_roundIsLeft_21 : decode cX0_roundIsLeft 21 = .ok (.goto 4, 3) := by decide +kernel
theorem dX0_roundIsLeft_24 : decode cX0_roundIsLeft 24 = .ok (.iconst 0, 1) := by decide +kernel
theorem dX0_roundIsLeft_25 : decode cX0_roundIsLeft 25 = .ok (.ireturn, 1) := by decide +kernel
theorem dX0_countMembers_0 : decode cX0_countMembers 0 = .ok (.iconst 0, 1) := by decide +kernel
theorem dX0_countMembers_1 : decode cX0_countMembers 1 = .ok (.istore_n 1, 1) := by decide +kernel
theorem dX0_countMembers_2 : decode cX0_countMembers 2 = .ok (.aload_n 0, 1) := by decide +kernel
theorem dX0_countMembers_3 : decode cX0_countMembers 3 = .ok (.getfield 11, 3) := by decide +kernel
theorem dX0_countMembers_6 : decode cX0_countMembers 6 = .ok (.astore_n 2, 1) := by decide +kernel
theorem dX0_countMembers_7 : decode cX0_countMembers 7 = .ok (.aload_n 2, 1) := by decide +kernel
theorem dX0_countMembers_8 : decode cX0_countMembers 8 = .ok (.arraylength, 1) := by decide +kernel
theorem dX0_countMembers_9 : decode cX0_countMembers 9 = .ok (.istore_n 3, 1) := by decide +kernel
theorem dX0_countMembers_10 : decode cX0_countMembers 10 = .ok (.iconst 0, 1) := by decide +kernel
theorem dX0_countMembers_11 : decode cX0_countMembers 11 = .ok (.istore 4, 2) := by decide +kernel
theorem dX0_countMembers_13 : decode cX0_countMembers 13 = .ok (.iload 4, 2) := by decide +kernel
theorem dX0_countMembers_15 : decode cX0_countMembers 15 = .ok (.iload_n 3, 1) := by decide +kernel
theorem dX0_countMembers_16 : decode cX0_countMembers 16 = .ok (.if_icmp .ge 31, 3) := by decide +kernel
theorem dX0_countMembers_19 : decode cX0_countMembers 19 = .ok (.aload_n 2, 1) := by decide +kernel
theorem dX0_countMembers_20 : decode cX0_countMembers 20 = .ok (.iload 4, 2) := by decide +kernel
theorem dX0_countMembers_22 : decode cX0_countMembers 22 = .ok (.aaload, 1) := by decide +kernel
theorem dX0_countMembers_23 : decode cX0_countMembers 23 = .ok (.astore 5, 2) := by decide +kernel
theorem dX0_countMembers_25 : decode cX0_countMembers 25 = .ok (.iload_n 1, 1) := by decide +kernel
theorem dX0_countMembers_26 : decode cX0_countMembers 26 = .ok (.aload 5, 2) := by decide +kernel
theorem dX0_countMembers_28 : decode cX0_countMembers 28 = .ok (.invokevirtual 55, 3) := by decide +kernel
theorem dX0_countMembers_31 : decode cX0_countMembers 31 = .ok (.ifCond .eq 7, 3) := by decide +kernel
theorem dX0_countMembers_34 : decode cX0_countMembers 34 = .ok (.iconst 1, 1) := by decide +kernel
theorem dX0_countMembers_35 : decode cX0_countMembers 35 = .ok (.goto 4, 3) := by decide +kernel
theorem dX0_countMembers_38 : decode cX0_countMembers 38 = .ok (.iconst 0, 1) := by decide +kernel
theorem dX0_countMembers_39 : decode cX0_countMembers 39 = .ok (.iadd, 1) := by decide +kernel
theorem dX0_countMembers_40 : decode cX0_countMembers 40 = .ok (.istore_n 1, 1) := by decide +kernel
theorem dX0_countMembers_41 : decode cX0_countMembers 41 = .ok (.iinc 4 1, 3) := by decide +kernel
theorem dX0_countMembers_44 : decode cX0_countMembers 44 = .ok (.goto (-31), 3) := by decide +kernel
theorem dX0_countMembers_47 : decode cX0_countMembers 47 = .ok (.iload_n 1, 1) := by decide +kernel
theorem dX0_countMembers_48 : decode cX0_countMembers 48 = .ok (.ireturn, 1) := by decide +kernel
theorem dX0_countNeither_0 : decode cX0_countNeither 0 = .ok (.iconst 0, 1) := by decide +kernel
theorem dX0_countNeither_1 : decode cX0_countNeither 1 = .ok (.istore_n 1, 1) := by decide +kernel
theorem dX0_countNeither_2 : decode cX0_countNeither 2 = .ok (.aload_n 0, 1) := by decide +kernel
theorem dX0_countNeither_3 : decode cX0_countNeither 3 = .ok (.getfield 11, 3) := by decide +kernel
theorem dX0_countNeither_6 : decode cX0_countNeither 6 = .ok (.astore_n 2, 1) := by decide +kernel
theorem dX0_countNeither_7 : decode cX0_countNeither 7 = .ok (.aload_n 2, 1) := by decide +kernel
theorem dX0_countNeither_8 : decode cX0_countNeither 8 = .ok (.arraylength, 1) := by decide +kernel
theorem dX0_countNeither_9 : decode cX0_countNeither 9 = .ok (.istore_n 3, 1) := by decide +kernel
theorem dX0_countNeither_10 : decode cX0_countNeither 10 = .ok (.iconst 0, 1) := by decide +kernel
theorem dX0_countNeither_11 : decode cX0_countNeither 11 = .ok (.istore 4, 2) := by decide +kernel
theorem dX0_countNeither_13 : decode cX0_countNeither 13 = .ok (.iload 4, 2) := by decide +kernel
theorem dX0_countNeither_15 : decode cX0_countNeither 15 = .ok (.iload_n 3, 1) := by decide +kernel
theorem dX0_countNeither_16 : decode cX0_countNeither 16 = .ok (.if_icmp .ge 31, 3) := by decide +kernel
theorem dX0_countNeither_19 : decode cX0_countNeither 19 = .ok (.aload_n 2, 1) := by decide +kernel
theorem dX0_countNeither_20 : decode cX0_countNeither 20 = .ok (.iload 4, 2) := by decide +kernel
theorem dX0_countNeither_22 : decode cX0_countNeither 22 = .ok (.aaload, 1) := by decide +kernel
theorem dX0_countNeither_23 : decode cX0_countNeither 23 = .ok (.astore 5, 2) := by decide +kernel
theorem dX0_countNeither_25 : decode cX0_countNeither 25 = .ok (.iload_n 1, 1) := by decide +kernel
theorem dX0_countNeither_26 : decode cX0_countNeither 26 = .ok (.aload 5, 2) := by decide +kernel
theorem dX0_countNeither_28 : decode cX0_countNeither 28 = .ok (.invokevirtual 62, 3) := by decide +kernel
theorem dX0_countNeither_31 : decode cX0_countNeither 31 = .ok (.ifCond .eq 7, 3) := by decide +kernel
theorem dX0_countNeither_34 : decode cX0_countNeither 34 = .ok (.iconst 1, 1) := by decide +kernel
theorem dX0_countNeither_35 : decode cX0_countNeither 35 = .ok (.goto 4, 3) := by decide +kernel
theorem dX0_countNeither_38 : decode cX0_countNeither 38 = .ok (.iconst 0, 1) := by decide +kernel
theorem dX0_countNeither_39 : decode cX0_countNeither 39 = .ok (.iadd, 1) := by decide +kernel
theorem dX0_countNeither_40 : decode cX0_countNeither 40 = .ok (.istore_n 1, 1) := by decide +kernel
theorem dX0_countNeither_41 : decode cX0_countNeither 41 = .ok (.iinc 4 1, 3) := by decide +kernel
theorem dX0_countNeither_44 : decode cX0_countNeither 44 = .ok (.goto (-31), 3) := by decide +kernel
theorem dX0_countNeither_47 : decode cX0_countNeither 47 = .ok (.iload_n 1, 1) := by decide +kernel
theorem dX0_countNeither_48 : decode cX0_countNeither 48 = .ok (.ireturn, 1) := by decide +kernel
theorem dX0_countYes_0 : decode cX0_countYes 0 = .ok (.iconst 0, 1) := by decide +kernel
theorem dX0_countYes_1 : decode cX0_countYes 1 = .ok (.istore_n 1, 1) := by decide +kernel
theorem dX0_countYes_2 : decode cX0_countYes 2 = .ok (.aload_n 0, 1) := by decide +kernel
theorem dX0_countYes_3 : decode cX0_countYes 3 = .ok (.getfield 11, 3) := by decide +kernel
theorem dX0_countYes_6 : decode cX0_countYes 6 = .ok (.astore_n 2, 1) := by decide +kernel
theorem dX0_countYes_7 : decode cX0_countYes 7 = .ok (.aload_n 2, 1) := by decide +kernel
theorem dX0_countYes_8 : decode cX0_countYes 8 = .ok (.arraylength, 1) := by decide +kernel
theorem dX0_countYes_9 : decode cX0_countYes 9 = .ok (.istore_n 3, 1) := by decide +kernel
theorem dX0_countYes_10 : decode cX0_countYes 10 = .ok (.iconst 0, 1) := by decide +kernel
theorem dX0_countYes_11 : decode cX0_countYes 11 = .ok (.istore 4, 2) := by decide +kernel
theorem dX0_countYes_13 : decode cX0_countYes 13 = .ok (.iload 4, 2) := by decide +kernel
theorem dX0_countYes_15 : decode cX0_countYes 15 = .ok (.iload_n 3, 1) := by decide +kernel
theorem dX0_countYes_16 : decode cX0_countYes 16 = .ok (.if_icmp .ge 39, 3) := by decide +kernel
theorem dX0_countYes_19 : decode cX0_countYes 19 = .ok (.aload_n 2, 1) := by decide +kernel
theorem dX0_countYes_20 : decode cX0_countYes 20 = .ok (.iload 4, 2) := by decide +kernel
theorem dX0_countYes_22 : decode cX0_countYes 22 = .ok (.aaload, 1) := by decide +kernel
theorem dX0_countYes_23 : decode cX0_countYes 23 = .ok (.astore 5, 2) := by decide +kernel
theorem dX0_countYes_25 : decode cX0_countYes 25 = .ok (.iload_n 1, 1) := by decide +kernel
theorem dX0_countYes_26 : decode cX0_countYes 26 = .ok (.aload 5, 2) := by decide +kernel
theorem dX0_countYes_28 : decode cX0_countYes 28 = .ok (.invokevirtual 62, 3) := by decide +kernel
theorem dX0_countYes_31 : decode cX0_countYes 31 = .ok (.ifCond .eq 15, 3) := by decide +kernel
theorem dX0_countYes_34 : decode cX0_countYes 34 = .ok (.aload 5, 2) := by decide +kernel
theorem dX0_countYes_36 : decode cX0_countYes 36 = .ok (.getfield 65, 3) := by decide +kernel
theorem dX0_countYes_39 : decode cX0_countYes 39 = .ok (.ifCond .eq 7, 3) := by decide +kernel
theorem dX0_countYes_42 : decode cX0_countYes 42 = .ok (.iconst 1, 1) := by decide +kernel
theorem dX0_countYes_43 : decode cX0_countYes 43 = .ok (.goto 4, 3) := by decide +kernel
theorem dX0_countYes_46 : decode cX0_countYes 46 = .ok (.iconst 0, 1) := by decide +kernel
theorem dX0_countYes_47 : decode cX0_countYes 47 = .ok (.iadd, 1) := by decide +kernel
theorem dX0_countYes_48 : decode cX0_countYes 48 = .ok (.istore_n 1, 1) := by decide +kernel
theorem dX0_countYes_49 : decode cX0_countYes 49 = .ok (.iinc 4 1, 3) := by decide +kernel
theorem dX0_countYes_52 : decode cX0_countYes 52 = .ok (.goto (-39), 3) := by decide +kernel
theorem dX0_countYes_55 : decode cX0_countYes 55 = .ok (.iload_n 1, 1) := by decide +kernel
theorem dX0_countYes_56 : decode cX0_countYes 56 = .ok (.ireturn, 1) := by decide +kernel
theorem dX0_countAble_0 : decode cX0_countAble 0 = .ok (.iconst 0, 1) := by decide +kernel
theorem dX0_countAble_1 : decode cX0_countAble 1 = .ok (.istore_n 1, 1) := by decide +kernel
theorem dX0_countAble_2 : decode cX0_countAble 2 = .ok (.aload_n 0, 1) := by decide +kernel
theorem dX0_countAble_3 : decode cX0_countAble 3 = .ok (.getfield 11, 3) := by decide +kernel
theorem dX0_countAble_6 : decode cX0_countAble 6 = .ok (.astore_n 2, 1) := by decide +kernel
theorem dX0_countAble_7 : decode cX0_countAble 7 = .ok (.aload_n 2, 1) := by decide +kernel
theorem dX0_countAble_8 : decode cX0_countAble 8 = .ok (.arraylength, 1) := by decide +kernel
theorem dX0_countAble_9 : decode cX0_countAble 9 = .ok (.istore_n 3, 1) := by decide +kernel
theorem dX0_countAble_10 : decode cX0_countAble 10 = .ok (.iconst 0, 1) := by decide +kernel
theorem dX0_countAble_11 : decode cX0_countAble 11 = .ok (.istore 4, 2) := by decide +kernel
theorem dX0_countAble_13 : decode cX0_countAble 13 = .ok (.iload 4, 2) := by decide +kernel
theorem dX0_countAble_15 : decode cX0_countAble 15 = .ok (.iload_n 3, 1) := by decide +kernel
theorem dX0_countAble_16 : decode cX0_countAble 16 = .ok (.if_icmp .ge 31, 3) := by decide +kernel
theorem dX0_countAble_19 : decode cX0_countAble 19 = .ok (.aload_n 2, 1) := by decide +kernel
theorem dX0_countAble_20 : decode cX0_countAble 20 = .ok (.iload 4, 2) := by decide +kernel
theorem dX0_countAble_22 : decode cX0_countAble 22 = .ok (.aaload, 1) := by decide +kernel
theorem dX0_countAble_23 : decode cX0_countAble 23 = .ok (.astore 5, 2) := by decide +kernel
theorem dX0_countAble_25 : decode cX0_countAble 25 = .ok (.iload_n 1, 1) := by decide +kernel
theorem dX0_countAble_26 : decode cX0_countAble 26 = .ok (.aload 5, 2) := by decide +kernel
theorem dX0_countAble_28 : decode cX0_countAble 28 = .ok (.invokevirtual 69, 3) := by decide +kernel
theorem dX0_countAble_31 : decode cX0_countAble 31 = .ok (.ifCond .eq 7, 3) := by decide +kernel
theorem dX0_countAble_34 : decode cX0_countAble 34 = .ok (.iconst 1, 1) := by decide +kernel
theorem dX0_countAble_35 : decode cX0_countAble 35 = .ok (.goto 4, 3) := by decide +kernel
theorem dX0_countAble_38 : decode cX0_countAble 38 = .ok (.iconst 0, 1) := by decide +kernel
theorem dX0_countAble_39 : decode cX0_countAble 39 = .ok (.iadd, 1) := by decide +kernel
theorem dX0_countAble_40 : decode cX0_countAble 40 = .ok (.istore_n 1, 1) := by decide +kernel
theorem dX0_countAble_41 : decode cX0_countAble 41 = .ok (.iinc 4 1, 3) := by decide +kernel
theorem dX0_countAble_44 : decode cX0_countAble 44 = .ok (.goto (-31), 3) := by decide +kernel
theorem dX0_countAble_47 : decode cX0_countAble 47 = .ok (.iload_n 1, 1) := by decide +kernel
theorem dX0_countAble_48 : decode cX0_countAble 48 = .ok (.ireturn, 1) := by decide +kernel
theorem dX0_ableNumber_0 : decode cX0_ableNumber 0 = .ok (.lconst 0, 1) := by decide +kernel
theorem dX0_ableNumber_1 : decode cX0_ableNumber 1 = .ok (.lstore_n 3, 1) := by decide +kernel
theorem dX0_ableNumber_2 : decode cX0_ableNumber 2 = .ok (.iconst 0, 1) := by decide +kernel
theorem dX0_ableNumber_3 : decode cX0_ableNumber 3 = .ok (.istore 5, 2) := by decide +kernel
theorem dX0_ableNumber_5 : decode cX0_ableNumber 5 = .ok (.iload 5, 2) := by decide +kernel
theorem dX0_ableNumber_7 : decode cX0_ableNumber 7 = .ok (.bipush 60, 2) := by decide +kernel
theorem dX0_ableNumber_9 : decode cX0_ableNumber 9 = .ok (.if_icmp .ge 35, 3) := by decide +kernel
theorem dX0_ableNumber_12 : decode cX0_ableNumber 12 = .ok (.aload_n 0, 1) := by decide +kernel
theorem dX0_ableNumber_13 : decode cX0_ableNumber 13 = .ok (.getfield 11, 3) := by decide +kernel
theorem dX0_ableNumber_16 : decode cX0_ableNumber 16 = .ok (.iload 5, 2) := by decide +kernel
theorem dX0_ableNumber_18 : decode cX0_ableNumber 18 = .ok (.aaload, 1) := by decide +kernel
theorem dX0_ableNumber_19 : decode cX0_ableNumber 19 = .ok (.invokevirtual 69, 3) := by decide +kernel
theorem dX0_ableNumber_22 : decode cX0_ableNumber 22 = .ok (.ifCond .eq 16, 3) := by decide +kernel
theorem dX0_ableNumber_25 : decode cX0_ableNumber 25 = .ok (.lload_n 3, 1) := by decide +kernel
theorem dX0_ableNumber_26 : decode cX0_ableNumber 26 = .ok (.lload_n 1, 1) := by decide +kernel
theorem dX0_ableNumber_27 : decode cX0_ableNumber 27 = .ok (.lcmp, 1) := by decide +kernel
theorem dX0_ableNumber_28 : decode cX0_ableNumber 28 = .ok (.ifCond .ne 6, 3) := by decide +kernel
theorem dX0_ableNumber_31 : decode cX0_ableNumber 31 = .ok (.iload 5, 2) := by decide +kernel
theorem dX0_ableNumber_33 : decode cX0_ableNumber 33 = .ok (.ireturn, 1) := by decide +kernel
theorem dX0_ableNumber_34 : decode cX0_ableNumber 34 = .ok (.lload_n 3, 1) := by decide +kernel
theorem dX0_ableNumber_35 : decode cX0_ableNumber 35 = .ok (.lconst 1, 1) := by decide +kernel
theorem dX0_ableNumber_36 : decode cX0_ableNumber 36 = .ok (.ladd, 1) := by decide +kernel
theorem dX0_ableNumber_37 : decode cX0_ableNumber 37 = .ok (.lstore_n 3, 1) := by decide +kernel
theorem dX0_ableNumber_38 : decode cX0_ableNumber 38 = .ok (.iinc 5 1, 3) := by decide +kernel
theorem dX0_ableNumber_41 : decode cX0_ableNumber 41 = .ok (.goto (-36), 3) := by decide +kernel
theorem dX0_ableNumber_44 : decode cX0_ableNumber 44 = .ok (.iconst (-1), 1) := by decide +kernel
theorem dX0_ableNumber_45 : decode cX0_ableNumber 45 = .ok (.ireturn, 1) := by decide +kernel
theorem dX0_letterOn_0 : decode cX0_letterOn 0 = .ok (.aload_n 0, 1) := by decide +kernel
theorem dX0_letterOn_1 : decode cX0_letterOn 1 = .ok (.iload_n 1, 1) := by decide +kernel
theorem dX0_letterOn_2 : decode cX0_letterOn 2 = .ok (.invokevirtual 51, 3) := by decide +kernel
theorem dX0_letterOn_5 : decode cX0_letterOn 5 = .ok (.astore_n 2, 1) := by decide +kernel
theorem dX0_letterOn_6 : decode cX0_letterOn 6 = .ok (.aload_n 2, 1) := by decide +kernel
theorem dX0_letterOn_7 : decode cX0_letterOn 7 = .ok (.ifnonnull 7, 3) := by decide +kernel
theorem dX0_letterOn_10 : decode cX0_letterOn 10 = .ok (.iconst 0, 1) := by decide +kernel
theorem dX0_letterOn_11 : decode cX0_letterOn 11 = .ok (.goto 7, 3) := by decide +kernel
theorem dX0_letterOn_14 : decode cX0_letterOn 14 = .ok (.aload_n 2, 1) := by decide +kernel
theorem dX0_letterOn_15 : decode cX0_letterOn 15 = .ok (.getfield 72, 3) := by decide +kernel
theorem dX0_letterOn_18 : decode cX0_letterOn 18 = .ok (.ireturn, 1) := by decide +kernel
theorem dX0_cellOf_0 : decode cX0_cellOf 0 = .ok (.aload_n 0, 1) := by decide +kernel
theorem dX0_cellOf_1 : decode cX0_cellOf 1 = .ok (.iload_n 1, 1) := by decide +kernel
theorem dX0_cellOf_2 : decode cX0_cellOf 2 = .ok (.invokevirtual 51, 3) := by decide +kernel
theorem dX0_cellOf_5 : decode cX0_cellOf 5 = .ok (.astore_n 2, 1) := by decide +kernel
theorem dX0_cellOf_6 : decode cX0_cellOf 6 = .ok (.aload_n 2, 1) := by decide +kernel
theorem dX0_cellOf_7 : decode cX0_cellOf 7 = .ok (.ifnull 11, 3) := by decide +kernel
theorem dX0_cellOf_10 : decode cX0_cellOf 10 = .ok (.iload_n 1, 1) := by decide +kernel
theorem dX0_cellOf_11 : decode cX0_cellOf 11 = .ok (.aload_n 0, 1) := by decide +kernel
theorem dX0_cellOf_12 : decode cX0_cellOf 12 = .ok (.getfield 18, 3) := by decide +kernel
theorem dX0_cellOf_15 : decode cX0_cellOf 15 = .ok (.if_icmp .lt 7, 3) := by decide +kernel
theorem dX0_cellOf_18 : decode cX0_cellOf 18 = .ok (.iconst (-1), 1) := by decide +kernel
theorem dX0_cellOf_19 : decode cX0_cellOf 19 = .ok (.goto 7, 3) := by decide +kernel
theorem dX0_cellOf_22 : decode cX0_cellOf 22 = .ok (.aload_n 2, 1) := by decide +kernel
theorem dX0_cellOf_23 : decode cX0_cellOf 23 = .ok (.getfield 75, 3) := by decide +kernel
theorem dX0_cellOf_26 : decode cX0_cellOf 26 = .ok (.ireturn, 1) := by decide +kernel
theorem dX0_valueOf_0 : decode cX0_valueOf 0 = .ok (.aload_n 0, 1) := by decide +kernel
theorem dX0_valueOf_1 : decode cX0_valueOf 1 = .ok (.iload_n 1, 1) := by decide +kernel
theorem dX0_valueOf_2 : decode cX0_valueOf 2 = .ok (.invokevirtual 51, 3) := by decide +kernel
theorem dX0_valueOf_5 : decode cX0_valueOf 5 = .ok (.astore_n 3, 1) := by decide +kernel
theorem dX0_valueOf_6 : decode cX0_valueOf 6 = .ok (.aload_n 3, 1) := by decide +kernel
theorem dX0_valueOf_7 : decode cX0_valueOf 7 = .ok (.ifnonnull 7, 3) := by decide +kernel
theorem dX0_valueOf_10 : decode cX0_valueOf 10 = .ok (.ldc2_w 78, 3) := by decide +kernel
theorem dX0_valueOf_13 : decode cX0_valueOf 13 = .ok (.lreturn, 1) := by decide +kernel
theorem dX0_valueOf_14 : decode cX0_valueOf 14 = .ok (.iload_n 2, 1) := by decide +kernel
theorem dX0_valueOf_15 : decode cX0_valueOf 15 = .ok (.ifCond .ne 9, 3) := by decide +kernel
theorem dX0_valueOf_18 : decode cX0_valueOf 18 = .ok (.aload_n 3, 1) := by decide +kernel
theorem dX0_valueOf_19 : decode cX0_valueOf 19 = .ok (.getfield 80, 3) := by decide +kernel
theorem dX0_valueOf_22 : decode cX0_valueOf 22 = .ok (.i2l, 1) := by decide +kernel
theorem dX0_valueOf_23 : decode cX0_valueOf 23 = .ok (.lreturn, 1) := by decide +kernel
theorem dX0_valueOf_24 : decode cX0_valueOf 24 = .ok (.iload_n 2, 1) := by decide +kernel
theorem dX0_valueOf_25 : decode cX0_valueOf 25 = .ok (.bipush 11, 2) := by decide +kernel
theorem dX0_valueOf_27 : decode cX0_valueOf 27 = .ok (.if_icmp .ne 9, 3) := by decide +kernel
theorem dX0_valueOf_30 : decode cX0_valueOf 30 = .ok (.aload_n 3, 1) := by decide +kernel
theorem dX0_valueOf_31 : decode cX0_valueOf 31 = .ok (.getfield 83, 3) := by decide +kernel
theorem dX0_valueOf_34 : decode cX0_valueOf 34 = .ok (.i2l, 1) := by decide +kernel
theorem dX0_valueOf_35 : decode cX0_valueOf 35 = .ok (.lreturn, 1) := by decide +kernel
theorem dX0_valueOf_36 : decode cX0_valueOf 36 = .ok (.aload_n 0, 1) := by decide +kernel
theorem dX0_valueOf_37 : decode cX0_valueOf 37 = .ok (.iload_n 1, 1) := by decide +kernel
theorem dX0_valueOf_38 : decode cX0_valueOf 38 = .ok (.invokevirtual 86, 3) := by decide +kernel
theorem dX0_valueOf_41 : decode cX0_valueOf 41 = .ok (.ifnonnull 9, 3) := by decide +kernel
theorem dX0_valueOf_44 : decode cX0_valueOf 44 = .ok (.ldc2_w 78, 3) := by decide +kernel
theorem dX0_valueOf_47 : decode cX0_valueOf 47 = .ok (.goto 8, 3) := by decide +kernel
theorem dX0_valueOf_50 : decode cX0_valueOf 50 = .ok (.aload_n 3, 1) := by decide +kernel
theorem dX0_valueOf_51 : decode cX0_valueOf 51 = .ok (.iload_n 2, 1) := by decide +kernel
theorem dX0_valueOf_52 : decode cX0_valueOf 52 = .ok (.invokevirtual 89, 3) := by decide +kernel
theorem dX0_valueOf_55 : decode cX0_valueOf 55 = .ok (.lreturn, 1) := by decide +kernel
theorem dX0_forgetYes_0 : decode cX0_forgetYes 0 = .ok (.aload_n 0, 1) := by decide +kernel
theorem dX0_forgetYes_1 : decode cX0_forgetYes 1 = .ok (.getfield 11, 3) := by decide +kernel
theorem dX0_forgetYes_4 : decode cX0_forgetYes 4 = .ok (.astore_n 1, 1) := by decide +kernel
theorem dX0_forgetYes_5 : decode cX0_forgetYes 5 = .ok (.aload_n 1, 1) := by decide +kernel
theorem dX0_forgetYes_6 : decode cX0_forgetYes 6 = .ok (.arraylength, 1) := by decide +kernel
theorem dX0_forgetYes_7 : decode cX0_forgetYes 7 = .ok (.istore_n 2, 1) := by decide +kernel
theorem dX0_forgetYes_8 : decode cX0_forgetYes 8 = .ok (.iconst 0, 1) := by decide +kernel
theorem dX0_forgetYes_9 : decode cX0_forgetYes 9 = .ok (.istore_n 3, 1) := by decide +kernel
theorem dX0_forgetYes_10 : decode cX0_forgetYes 10 = .ok (.iload_n 3, 1) := by decide +kernel
theorem dX0_forgetYes_11 : decode cX0_forgetYes 11 = .ok (.iload_n 2, 1) := by decide +kernel
theorem dX0_forgetYes_12 : decode cX0_forgetYes 12 = .ok (.if_icmp .ge 20, 3) := by decide +kernel
theorem dX0_forgetYes_15 : decode cX0_forgetYes 15 = .ok (.aload_n 1, 1) := by decide +kernel
theorem dX0_forgetYes_16 : decode cX0_forgetYes 16 = .ok (.iload_n 3, 1) := by decide +kernel
theorem dX0_forgetYes_17 : decode cX0_forgetYes 17 = .ok (.aaload, 1) := by decide +kernel
theorem dX0_forgetYes_18 : decode cX0_forgetYes 18 = .ok (.astore 4, 2) := by decide +kernel
theorem dX0_forgetYes_20 : decode cX0_forgetYes 20 = .ok (.aload 4, 2) := by decide +kernel
theorem dX0_forgetYes_22 : decode cX0_forgetYes 22 = .ok (.iconst 0, 1) := by decide +kernel
theorem dX0_forgetYes_23 : decode cX0_forgetYes 23 = .ok (.putfield 65, 3) := by decide +kernel
theorem dX0_forgetYes_26 : decode cX0_forgetYes 26 = .ok (.iinc 3 1, 3) := by decide +kernel
theorem dX0_forgetYes_29 : decode cX0_forgetYes 29 = .ok (.goto (-19), 3) := by decide +kernel
theorem dX0_forgetYes_32 : decode cX0_forgetYes 32 = .ok (.return_, 1) := by decide +kernel
theorem dX0_dropEmptySureties_0 : decode cX0_dropEmptySureties 0 = .ok (.aload_n 0, 1) := by decide +kernel
theorem dX0_dropEmptySureties_1 : decode cX0_dropEmptySureties 1 = .ok (.getfield 11, 3) := by decide +kernel
theorem dX0_dropEmptySureties_4 : decode cX0_dropEmptySureties 4 = .ok (.astore_n 1, 1) := by decide +kernel
theorem dX0_dropEmptySureties_5 : decode cX0_dropEmptySureties 5 = .ok (.aload_n 1, 1) := by decide +kernel
theorem dX0_dropEmptySureties_6 : decode cX0_dropEmptySureties 6 = .ok (.arraylength, 1) := by decide +kernel
theorem dX0_dropEmptySureties_7 : decode cX0_dropEmptySureties 7 = .ok (.istore_n 2, 1) := by decide +kernel
theorem dX0_dropEmptySureties_8 : decode cX0_dropEmptySureties 8 = .ok (.iconst 0, 1) := by decide +kernel
theorem dX0_dropEmptySureties_9 : decode cX0_dropEmptySureties 9 = .ok (.istore_n 3, 1) := by decide +kernel
theorem dX0_dropEmptySureties_10 : decode cX0_dropEmptySureties 10 = .ok (.iload_n 3, 1) := by decide +kernel
theorem dX0_dropEmptySureties_11 : decode cX0_dropEmptySureties 11 = .ok (.iload_n 2, 1) := by decide +kernel
theorem dX0_dropEmptySureties_12 : decode cX0_dropEmptySureties 12 = .ok (.if_icmp .ge 53, 3) := by decide +kernel
theorem dX0_dropEmptySureties_15 : decode cX0_dropEmptySureties 15 = .ok (.aload_n 1, 1) := by decide +kernel
theorem dX0_dropEmptySureties_16 : decode cX0_dropEmptySureties 16 = .ok (.iload_n 3, 1) := by decide +kernel
theorem dX0_dropEmptySureties_17 : decode cX0_dropEmptySureties 17 = .ok (.aaload, 1) := by decide +kernel
theorem dX0_dropEmptySureties_18 : decode cX0_dropEmptySureties 18 = .ok (.astore 4, 2) := by decide +kernel
theorem dX0_dropEmptySureties_20 : decode cX0_dropEmptySureties 20 = .ok (.aload_n 0, 1) := by decide +kernel
theorem dX0_dropEmptySureties_21 : decode cX0_dropEmptySureties 21 = .ok (.aload 4, 2) := by decide +kernel
theorem dX0_dropEmptySureties_23 : decode cX0_dropEmptySureties 23 = .ok (.getfield 83, 3) := by decide +kernel
theorem dX0_dropEmptySureties_26 : decode cX0_dropEmptySureties 26 = .ok (.invokevirtual 51, 3) := by decide +kernel
theorem dX0_dropEmptySureties_29 : decode cX0_dropEmptySureties 29 = .ok (.astore 5, 2) := by decide +kernel
theorem dX0_dropEmptySureties_31 : decode cX0_dropEmptySureties 31 = .ok (.aload 4, 2) := by decide +kernel
theorem dX0_dropEmptySureties_33 : decode cX0_dropEmptySureties 33 = .ok (.invokevirtual 55, 3) := by decide +kernel
theorem dX0_dropEmptySureties_36 : decode cX0_dropEmptySureties 36 = .ok (.ifCond .eq 17, 3) := by decide +kernel
theorem dX0_dropEmptySureties_39 : decode cX0_dropEmptySureties 39 = .ok (.aload 5, 2) := by decide +kernel
theorem dX0_dropEmptySureties_41 : decode cX0_dropEmptySureties 41 = .ok (.ifnull 12, 3) := by decide +kernel
theorem dX0_dropEmptySureties_44 : decode cX0_dropEmptySureties 44 = .ok (.aload 5, 2) := by decide +kernel
theorem dX0_dropEmptySureties_46 : decode cX0_dropEmptySureties 46 = .ok (.getfield 80, 3) := by decide +kernel
theorem dX0_dropEmptySureties_49 : decode cX0_dropEmptySureties 49 = .ok (.iconst 4, 1) := by decide +kernel
theorem dX0_dropEmptySureties_50 : decode cX0_dropEmptySureties 50 = .ok (.if_icmp .eq 9, 3) := by decide +kernel
theorem dX0_dropEmptySureties_53 : decode cX0_dropEmptySureties 53 = .ok (.aload 4, 2) := by decide +kernel
theorem dX0_dropEmptySureties_55 : decode cX0_dropEmptySureties 55 = .ok (.iconst (-1), 1) := by decide +kernel
theorem dX0_dropEmptySureties_56 : decode cX0_dropEmptySureties 56 = .ok (.putfield 83, 3) := by decide +kernel
theorem dX0_dropEmptySureties_59 : decode cX0_dropEmptySureties 59 = .ok (.iinc 3 1, 3) := by decide +kernel
theorem dX0_dropEmptySureties_62 : decode cX0_dropEmptySureties 62 = .ok (.goto (-52), 3) := by decide +kernel
theorem dX0_dropEmptySureties_65 : decode cX0_dropEmptySureties 65 = .ok (.return_, 1) := by decide +kernel
theorem dX0_replaceRow_0 : decode cX0_replaceRow 0 = .ok (.aload_n 0, 1) := by decide +kernel
theorem dX0_replaceRow_1 : decode cX0_replaceRow 1 = .ok (.getfield 11, 3) := by decide +kernel
theorem dX0_replaceRow_4 : decode cX0_replaceRow 4 = .ok (.astore_n 2, 1) := by decide +kernel
theorem dX0_replaceRow_5 : decode cX0_replaceRow 5 = .ok (.aload_n 2, 1) := by decide +kernel
theorem dX0_replaceRow_6 : decode cX0_replaceRow 6 = .ok (.arraylength, 1) := by decide +kernel
theorem dX0_replaceRow_7 : decode cX0_replaceRow 7 = .ok (.istore_n 3, 1) := by decide +kernel
theorem dX0_replaceRow_8 : decode cX0_replaceRow 8 = .ok (.iconst 0, 1) := by decide +kernel
theorem dX0_replaceRow_9 : decode cX0_replaceRow 9 = .ok (.istore 4, 2) := by decide +kernel
theorem dX0_replaceRow_11 : decode cX0_replaceRow 11 = .ok (.iload 4, 2) := by decide +kernel
theorem dX0_replaceRow_13 : decode cX0_replaceRow 13 = .ok (.iload_n 3, 1) := by decide +kernel
theorem dX0_replaceRow_14 : decode cX0_replaceRow 14 = .ok (.if_icmp .ge 20, 3) := by decide +kernel
theorem dX0_replaceRow_17 : decode cX0_replaceRow 17 = .ok (.aload_n 2, 1) := by decide +kernel
theorem dX0_replaceRow_18 : decode cX0_replaceRow 18 = .ok (.iload 4, 2) := by decide +kernel
theorem dX0_replaceRow_20 : decode cX0_replaceRow 20 = .ok (.aaload, 1) := by decide +kernel
theorem dX0_replaceRow_21 : decode cX0_replaceRow 21 = .ok (.astore 5, 2) := by decide +kernel
theorem dX0_replaceRow_23 : decode cX0_replaceRow 23 = .ok (.aload 5, 2) := by decide +kernel
theorem dX0_replaceRow_25 : decode cX0_replaceRow 25 = .ok (.invokevirtual 93, 3) := by decide +kernel
theorem dX0_replaceRow_28 : decode cX0_replaceRow 28 = .ok (.iinc 4 1, 3) := by decide +kernel
theorem dX0_replaceRow_31 : decode cX0_replaceRow 31 = .ok (.goto (-20), 3) := by decide +kernel
theorem dX0_replaceRow_34 : decode cX0_replaceRow 34 = .ok (.aload_n 0, 1) := by decide +kernel
theorem dX0_replaceRow_35 : decode cX0_replaceRow 35 = .ok (.iload_n 1, 1) := by decide +kernel
theorem dX0_replaceRow_36 : decode cX0_replaceRow 36 = .ok (.putfield 18, 3) := by decide +kernel
theorem dX0_replaceRow_39 : decode cX0_replaceRow 39 = .ok (.return_, 1) := by decide +kernel
theorem dX0_forgetRound_0 : decode cX0_forgetRound 0 = .ok (.aload_n 0, 1) := by decide +kernel
theorem dX0_forgetRound_1 : decode cX0_forgetRound 1 = .ok (.getfield 11, 3) := by decide +kernel
theorem dX0_forgetRound_4 : decode cX0_forgetRound 4 = .ok (.astore_n 1, 1) := by decide +kernel
theorem dX0_forgetRound_5 : decode cX0_forgetRound 5 = .ok (.aload_n 1, 1) := by decide +kernel
theorem dX0_forgetRound_6 : decode cX0_forgetRound 6 = .ok (.arraylength, 1) := by decide +kernel
theorem dX0_forgetRound_7 : decode cX0_forgetRound 7 = .ok (.istore_n 2, 1) := by decide +kernel
theorem dX0_forgetRound_8 : decode cX0_forgetRound 8 = .ok (.iconst 0, 1) := by decide +kernel
theorem dX0_forgetRound_9 : decode cX0_forgetRound 9 = .ok (.istore_n 3, 1) := by decide +kernel
theorem dX0_forgetRound_10 : decode cX0_forgetRound 10 = .ok (.iload_n 3, 1) := by decide +kernel
theorem dX0_forgetRound_11 : decode cX0_forgetRound 11 = .ok (.iload_n 2, 1) := by decide +kernel
theorem dX0_forgetRound_12 : decode cX0_forgetRound 12 = .ok (.if_icmp .ge 31, 3) := by decide +kernel
theorem dX0_forgetRound_15 : decode cX0_forgetRound 15 = .ok (.aload_n 1, 1) := by decide +kernel
theorem dX0_forgetRound_16 : decode cX0_forgetRound 16 = .ok (.iload_n 3, 1) := by decide +kernel
theorem dX0_forgetRound_17 : decode cX0_forgetRound 17 = .ok (.aaload, 1) := by decide +kernel
theorem dX0_forgetRound_18 : decode cX0_forgetRound 18 = .ok (.astore 4, 2) := by decide +kernel
theorem dX0_forgetRound_20 : decode cX0_forgetRound 20 = .ok (.aload 4, 2) := by decide +kernel
theorem dX0_forgetRound_22 : decode cX0_forgetRound 22 = .ok (.invokevirtual 96, 3) := by decide +kernel
theorem dX0_forgetRound_25 : decode cX0_forgetRound 25 = .ok (.aload 4, 2) := by decide +kernel
theorem dX0_forgetRound_27 : decode cX0_forgetRound 27 = .ok (.lconst 0, 1) := by decide +kernel
theorem dX0_forgetRound_28 : decode cX0_forgetRound 28 = .ok (.putfield 99, 3) := by decide +kernel
theorem dX0_forgetRound_31 : decode cX0_forgetRound 31 = .ok (.aload 4, 2) := by decide +kernel
theorem dX0_forgetRound_33 : decode cX0_forgetRound 33 = .ok (.iconst 0, 1) := by decide +kernel
theorem dX0_forgetRound_34 : decode cX0_forgetRound 34 = .ok (.putfield 65, 3) := by decide +kernel
theorem dX0_forgetRound_37 : decode cX0_forgetRound 37 = .ok (.iinc 3 1, 3) := by decide +kernel
theorem dX0_forgetRound_40 : decode cX0_forgetRound 40 = .ok (.goto (-30), 3) := by decide +kernel
theorem dX0_forgetRound_43 : decode cX0_forgetRound 43 = .ok (.aload_n 0, 1) := by decide +kernel
theorem dX0_forgetRound_44 : decode cX0_forgetRound 44 = .ok (.iconst (-1), 1) := by decide +kernel
theorem dX0_forgetRound_45 : decode cX0_forgetRound 45 = .ok (.putfield 18, 3) := by decide +kernel
theorem dX0_forgetRound_48 : decode cX0_forgetRound 48 = .ok (.aload_n 0, 1) := by decide +kernel
theorem dX0_forgetRound_49 : decode cX0_forgetRound 49 = .ok (.iconst (-1), 1) := by decide +kernel
theorem dX0_forgetRound_50 : decode cX0_forgetRound 50 = .ok (.putfield 22, 3) := by decide +kernel
theorem dX0_forgetRound_53 : decode cX0_forgetRound 53 = .ok (.return_, 1) := by decide +kernel
theorem dX1_init_0 : decode cX1_init 0 = .ok (.aload_n 0, 1) := by decide +kernel
theorem dX1_init_1 : decode cX1_init 1 = .ok (.invokespecial 3, 3) := by decide +kernel
theorem dX1_init_4 : decode cX1_init 4 = .ok (.aload_n 0, 1) := by decide +kernel
theorem dX1_init_5 : decode cX1_init 5 = .ok (.iconst (-1), 1) := by decide +kernel
theorem dX1_init_6 : decode cX1_init 6 = .ok (.putfield 9, 3) := by decide +kernel
theorem dX1_init_9 : decode cX1_init 9 = .ok (.return_, 1) := by decide +kernel
theorem dX1_copyFrom_0 : decode cX1_copyFrom 0 = .ok (.aload_n 0, 1) := by decide +kernel
theorem dX1_copyFrom_1 : decode cX1_copyFrom 1 = .ok (.aload_n 1, 1) := by decide +kernel
theorem dX1_copyFrom_2 : decode cX1_copyFrom 2 = .ok (.getfield 15, 3) := by decide +kernel
theorem dX1_copyFrom_5 : decode cX1_copyFrom 5 = .ok (.putfield 15, 3) := by decide +kernel
theorem dX1_copyFrom_8 : decode cX1_copyFrom 8 = .ok (.aload_n 0, 1) := by decide +kernel
theorem dX1_copyFrom_9 : decode cX1_copyFrom 9 = .ok (.aload_n 1, 1) := by decide +kernel
theorem dX1_copyFrom_10 : decode cX1_copyFrom 10 = .ok (.getfield 18, 3) := by decide +kernel
theorem dX1_copyFrom_13 : decode cX1_copyFrom 13 = .ok (.putfield 18, 3) := by decide +kernel
theorem dX1_copyFrom_16 : decode cX1_copyFrom 16 = .ok (.aload_n 0, 1) := by decide +kernel
theorem dX1_copyFrom_17 : decode cX1_copyFrom 17 = .ok (.aload_n 1, 1) := by decide +kernel
theorem dX1_copyFrom_18 : decode cX1_copyFrom 18 = .ok (.getfield 9, 3) := by decide +kernel
theorem dX1_copyFrom_21 : decode cX1_copyFrom 21 = .ok (.putfield 9, 3) := by decide +kernel
theorem dX1_copyFrom_24 : decode cX1_copyFrom 24 = .ok (.aload_n 0, 1) := by decide +kernel
theorem dX1_copyFrom_25 : decode cX1_copyFrom 25 = .ok (.aload_n 1, 1) := by decide +kernel
theorem dX1_copyFrom_26 : decode cX1_copyFrom 26 = .ok (.getfield 21, 3) := by decide +kernel
theorem dX1_copyFrom_29 : decode cX1_copyFrom 29 = .ok (.putfield 21, 3) := by decide +kernel
theorem dX1_copyFrom_32 : decode cX1_copyFrom 32 = .ok (.aload_n 0, 1) := by decide +kernel
theorem dX1_copyFrom_33 : decode cX1_copyFrom 33 = .ok (.aload_n 1, 1) := by decide +kernel
theorem dX1_copyFrom_34 : decode cX1_copyFrom 34 = .ok (.getfield 25, 3) := by decide +kernel
theorem dX1_copyFrom_37 : decode cX1_copyFrom 37 = .ok (.putfield 25, 3) := by decide +kernel
theorem dX1_copyFrom_40 : decode cX1_copyFrom 40 = .ok (.aload_n 0, 1) := by decide +kernel
theorem dX1_copyFrom_41 : decode cX1_copyFrom 41 = .ok (.aload_n 1, 1) := by decide +kernel
theorem dX1_copyFrom_42 : decode cX1_copyFrom 42 = .ok (.getfield 28, 3) := by decide +kernel
theorem dX1_copyFrom_45 : decode cX1_copyFrom 45 = .ok (.putfield 28, 3) := by decide +kernel
theorem dX1_copyFrom_48 : decode cX1_copyFrom 48 = .ok (.aload_n 0, 1) := by decide +kernel
theorem dX1_copyFrom_49 : decode cX1_copyFrom 49 = .ok (.aload_n 1, 1) := by decide +kernel
theorem dX1_copyFrom_50 : decode cX1_copyFrom 50 = .ok (.getfield 31, 3) := by decide +kernel
theorem dX1_copyFrom_53 : decode cX1_copyFrom 53 = .ok (.putfield 31, 3) := by decide +kernel
theorem dX1_copyFrom_56 : decode cX1_copyFrom 56 = .ok (.aload_n 0, 1) := by decide +kernel
theorem dX1_copyFrom_57 : decode cX1_copyFrom 57 = .ok (.aload_n 1, 1) := by decide +kernel
theorem dX1_copyFrom_58 : decode cX1_copyFrom 58 = .ok (.getfield 35, 3) := by decide +kernel
theorem dX1_copyFrom_61 : decode cX1_copyFrom 61 = .ok (.putfield 35, 3) := by decide +kernel
theorem dX1_copyFrom_64 : decode cX1_copyFrom 64 = .ok (.aload_n 0, 1) := by decide +kernel
theorem dX1_copyFrom_65 : decode cX1_copyFrom 65 = .ok (.aload_n 1, 1) := by decide +kernel
theorem dX1_copyFrom_66 : decode cX1_copyFrom 66 = .ok (.getfield 38, 3) := by decide +kernel
theorem dX1_copyFrom_69 : decode cX1_copyFrom 69 = .ok (.putfield 38, 3) := by decide +kernel
theorem dX1_copyFrom_72 : decode cX1_copyFrom 72 = .ok (.aload_n 0, 1) := by decide +kernel
theorem dX1_copyFrom_73 : decode cX1_copyFrom 73 = .ok (.aload_n 1, 1) := by decide +kernel
theorem dX1_copyFrom_74 : decode cX1_copyFrom 74 = .ok (.getfield 41, 3) := by decide +kernel
theorem dX1_copyFrom_77 : decode cX1_copyFrom 77 = .ok (.putfield 41, 3) := by decide +kernel
theorem dX1_copyFrom_80 : decode cX1_copyFrom 80 = .ok (.aload_n 0, 1) := by decide +kernel
theorem dX1_copyFrom_81 : decode cX1_copyFrom 81 = .ok (.aload_n 1, 1) := by decide +kernel
theorem dX1_copyFrom_82 : decode cX1_copyFrom 82 = .ok (.getfield 44, 3) := by decide +kernel
theorem dX1_copyFrom_85 : decode cX1_copyFrom 85 = .ok (.putfield 44, 3) := by decide +kernel
theorem dX1_copyFrom_88 : decode cX1_copyFrom 88 = .ok (.aload_n 0, 1) := by decide +kernel
theorem dX1_copyFrom_89 : decode cX1_copyFrom 89 = .ok (.aload_n 1, 1) := by decide +kernel
theorem dX1_copyFrom_90 : decode cX1_copyFrom 90 = .ok (.getfield 47, 3) := by decide +kernel
theorem dX1_copyFrom_93 : decode cX1_copyFrom 93 = .ok (.putfield 47, 3) := by decide +kernel
theorem dX1_copyFrom_96 : decode cX1_copyFrom 96 = .ok (.aload_n 0, 1) := by decide +kernel
theorem dX1_copyFrom_97 : decode cX1_copyFrom 97 = .ok (.aload_n 1, 1) := by decide +kernel
theorem dX1_copyFrom_98 : decode cX1_copyFrom 98 = .ok (.getfield 50, 3) := by decide +kernel
theorem dX1_copyFrom_101 : decode cX1_copyFrom 101 = .ok (.putfield 50, 3) := by decide +kernel
theorem dX1_copyFrom_104 : decode cX1_copyFrom 104 = .ok (.aload_n 0, 1) := by decide +kernel
theorem dX1_copyFrom_105 : decode cX1_copyFrom 105 = .ok (.aload_n 1, 1) := by decide +kernel
theorem dX1_copyFrom_106 : decode cX1_copyFrom 106 = .ok (.getfield 53, 3) := by decide +kernel
theorem dX1_copyFrom_109 : decode cX1_copyFrom 109 = .ok (.putfield 53, 3) := by decide +kernel
theorem dX1_copyFrom_112 : decode cX1_copyFrom 112 = .ok (.aload_n 0, 1) := by decide +kernel
theorem dX1_copyFrom_113 : decode cX1_copyFrom 113 = .ok (.aload_n 1, 1) := by decide +kernel
theorem dX1_copyFrom_114 : decode cX1_copyFrom 114 = .ok (.getfield 56, 3) := by decide +kernel
theorem dX1_copyFrom_117 : decode cX1_copyFrom 117 = .ok (.putfield 56, 3) := by decide +kernel
theorem dX1_copyFrom_120 : decode cX1_copyFrom 120 = .ok (.aload_n 0, 1) := by decide +kernel
theorem dX1_copyFrom_121 : decode cX1_copyFrom 121 = .ok (.aload_n 1, 1) := by decide +kernel
theorem dX1_copyFrom_122 : decode cX1_copyFrom 122 = .ok (.getfield 59, 3) := by decide +kernel
theorem dX1_copyFrom_125 : decode cX1_copyFrom 125 = .ok (.putfield 59, 3) := by decide +kernel
theorem dX1_copyFrom_128 : decode cX1_copyFrom 128 = .ok (.aload_n 0, 1) := by decide +kernel
theorem dX1_copyFrom_129 : decode cX1_copyFrom 129 = .ok (.aload_n 1, 1) := by decide +kernel
theorem dX1_copyFrom_130 : decode cX1_copyFrom 130 = .ok (.getfield 62, 3) := by decide +kernel
theorem dX1_copyFrom_133 : decode cX1_copyFrom 133 = .ok (.putfield 62, 3) := by decide +kernel
theorem dX1_copyFrom_136 : decode cX1_copyFrom 136 = .ok (.aload_n 0, 1) := by decide +kernel
theorem dX1_copyFrom_137 : decode cX1_copyFrom 137 = .ok (.aload_n 1, 1) := by decide +kernel
theorem dX1_copyFrom_138 : decode cX1_copyFrom 138 = .ok (.getfield 65, 3) := by decide +kernel
theorem dX1_copyFrom_141 : decode cX1_copyFrom 141 = .ok (.putfield 65, 3) := by decide +kernel
theorem dX1_copyFrom_144 : decode cX1_copyFrom 144 = .ok (.return_, 1) := by decide +kernel
theorem dX1_isMember_0 : decode cX1_isMember 0 = .ok (.aload_n 0, 1) := by decide +kernel
theorem dX1_isMember_1 : decode cX1_isMember 1 = .ok (.getfield 15, 3) := by decide +kernel
theorem dX1_isMember_4 : decode cX1_isMember 4 = .ok (.iconst 2, 1) := by decide +kernel
theorem dX1_isMember_5 : decode cX1_isMember 5 = .ok (.if_icmp .lt 7, 3) := by decide +kernel
theorem dX1_isMember_8 : decode cX1_isMember 8 = .ok (.iconst 1, 1) := by decide +kernel
theorem dX1_isMember_9 : decode cX1_isMember 9 = .ok (.goto 4, 3) := by decide +kernel
theorem dX1_isMember_12 : decode cX1_isMember 12 = .ok (.iconst 0, 1) := by decide +kernel
theorem dX1_isMember_13 : decode cX1_isMember 13 = .ok (.ireturn, 1) := by decide +kernel
theorem dX1_isGoing_0 : decode cX1_isGoing 0 = .ok (.aload_n 0, 1) := by decide +kernel
theorem dX1_isGoing_1 : decode cX1_isGoing 1 = .ok (.invokevirtual 68, 3) := by decide +kernel
theorem dX1_isGoing_4 : decode cX1_isGoing 4 = .ok (.ifCond .eq 14, 3) := by decide +kernel
theorem dX1_isGoing_7 : decode cX1_isGoing 7 = .ok (.aload_n 0, 1) := by decide +kernel
theorem dX1_isGoing_8 : decode cX1_isGoing 8 = .ok (.getfield 25, 3) := by decide +kernel
theorem dX1_isGoing_11 : decode cX1_isGoing 11 = .ok (.ifCond .ne 7, 3) := by decide +kernel
theorem dX1_isGoing_14 : decode cX1_isGoing 14 = .ok (.iconst 1, 1) := by decide +kernel
theorem dX1_isGoing_15 : decode cX1_isGoing 15 = .ok (.goto 4, 3) := by decide +kernel
theorem dX1_isGoing_18 : decode cX1_isGoing 18 = .ok (.iconst 0, 1) := by decide +kernel
theorem dX1_isGoing_19 : decode cX1_isGoing 19 = .ok (.ireturn, 1) := by decide +kernel
theorem dX1_isNeither_0 : decode cX1_isNeither 0 = .ok (.aload_n 0, 1) := by decide +kernel
theorem dX1_isNeither_1 : decode cX1_isNeither 1 = .ok (.invokevirtual 72, 3) := by decide +kernel
theorem dX1_isNeither_4 : decode cX1_isNeither 4 = .ok (.ifCond .eq 14, 3) := by decide +kernel
theorem dX1_isNeither_7 : decode cX1_isNeither 7 = .ok (.aload_n 0, 1) := by decide +kernel
theorem dX1_isNeither_8 : decode cX1_isNeither 8 = .ok (.getfield 21, 3) := by decide +kernel
theorem dX1_isNeither_11 : decode cX1_isNeither 11 = .ok (.ifCond .ne 7, 3) := by decide +kernel
theorem dX1_isNeither_14 : decode cX1_isNeither 14 = .ok (.iconst 1, 1) := by decide +kernel
theorem dX1_isNeither_15 : decode cX1_isNeither 15 = .ok (.goto 4, 3) := by decide +kernel
theorem dX1_isNeither_18 : decode cX1_isNeither 18 = .ok (.iconst 0, 1) := by decide +kernel
theorem dX1_isNeither_19 : decode cX1_isNeither 19 = .ok (.ireturn, 1) := by decide +kernel
theorem dX1_isAble_0 : decode cX1_isAble 0 = .ok (.aload_n 0, 1) := by decide +kernel
theorem dX1_isAble_1 : decode cX1_isAble 1 = .ok (.invokevirtual 75, 3) := by decide +kernel
theorem dX1_isAble_4 : decode cX1_isAble 4 = .ok (.ifCond .eq 16, 3) := by decide +kernel
theorem dX1_isAble_7 : decode cX1_isAble 7 = .ok (.aload_n 0, 1) := by decide +kernel
theorem dX1_isAble_8 : decode cX1_isAble 8 = .ok (.getfield 31, 3) := by decide +kernel
theorem dX1_isAble_11 : decode cX1_isAble 11 = .ok (.lconst 0, 1) := by decide +kernel
theorem dX1_isAble_12 : decode cX1_isAble 12 = .ok (.lcmp, 1) := by decide +kernel
theorem dX1_isAble_13 : decode cX1_isAble 13 = .ok (.ifCond .ne 7, 3) := by decide +kernel
theorem dX1_isAble_16 : decode cX1_isAble 16 = .ok (.iconst 1, 1) := by decide +kernel
theorem dX1_isAble_17 : decode cX1_isAble 17 = .ok (.goto 4, 3) := by decide +kernel
theorem dX1_isAble_20 : decode cX1_isAble 20 = .ok (.iconst 0, 1) := by decide +kernel
theorem dX1_isAble_21 : decode cX1_isAble 21 = .ok (.ireturn, 1) := by decide +kernel
theorem dX1_emptyCell_0 : decode cX1_emptyCell 0 = .ok (.aload_n 0, 1) := by decide +kernel
theorem dX1_emptyCell_1 : decode cX1_emptyCell 1 = .ok (.iconst 0, 1) := by decide +kernel
theorem dX1_emptyCell_2 : decode cX1_emptyCell 2 = .ok (.putfield 53, 3) := by decide +kernel
theorem dX1_emptyCell_5 : decode cX1_emptyCell 5 = .ok (.aload_n 0, 1) := by decide +kernel
theorem dX1_emptyCell_6 : decode cX1_emptyCell 6 = .ok (.iconst 0, 1) := by decide +kernel
theorem dX1_emptyCell_7 : decode cX1_emptyCell 7 = .ok (.putfield 56, 3) := by decide +kernel
theorem dX1_emptyCell_10 : decode cX1_emptyCell 10 = .ok (.aload_n 0, 1) := by decide +kernel
theorem dX1_emptyCell_11 : decode cX1_emptyCell 11 = .ok (.iconst 0, 1) := by decide +kernel
theorem dX1_emptyCell_12 : decode cX1_emptyCell 12 = .ok (.putfield 59, 3) := by decide +kernel
theorem dX1_emptyCell_15 : decode cX1_emptyCell 15 = .ok (.return_, 1) := by decide +kernel
theorem dX1_takeCellBack_0 : decode cX1_takeCellBack 0 = .ok (.aload_n 0, 1) := by decide +kernel
theorem dX1_takeCellBack_1 : decode cX1_takeCellBack 1 = .ok (.dup, 1) := by decide +kernel
theorem dX1_takeCellBack_2 : decode cX1_takeCellBack 2 = .ok (.getfield 41, 3) := by decide +kernel
theorem dX1_takeCellBack_5 : decode cX1_takeCellBack 5 = .ok (.aload_n 0, 1) := by decide +kernel
theorem dX1_takeCellBack_6 : decode cX1_takeCellBack 6 = .ok (.getfield 53, 3) := by decide +kernel
theorem dX1_takeCellBack_9 : decode cX1_takeCellBack 9 = .ok (.i2l, 1) := by decide +kernel
theorem dX1_takeCellBack_10 : decode cX1_takeCellBack 10 = .ok (.lsub, 1) := by decide +kernel
theorem dX1_takeCellBack_11 : decode cX1_takeCellBack 11 = .ok (.putfield 41, 3) := by decide +kernel
theorem dX1_takeCellBack_14 : decode cX1_takeCellBack 14 = .ok (.aload_n 0, 1) := by decide +kernel
theorem dX1_takeCellBack_15 : decode cX1_takeCellBack 15 = .ok (.invokevirtual 78, 3) := by decide +kernel
theorem dX1_takeCellBack_18 : decode cX1_takeCellBack 18 = .ok (.return_, 1) := by decide +kernel
theorem dX1_takeDepositBack_0 : decode cX1_takeDepositBack 0 = .ok (.aload_n 0, 1) := by decide +kernel
theorem dX1_takeDepositBack_1 : decode cX1_takeDepositBack 1 = .ok (.dup, 1) := by decide +kernel
theorem dX1_takeDepositBack_2 : decode cX1_takeDepositBack 2 = .ok (.getfield 50, 3) := by decide +kernel
theorem dX1_takeDepositBack_5 : decode cX1_takeDepositBack 5 = .ok (.aload_n 0, 1) := by decide +kernel
theorem dX1_takeDepositBack_6 : decode cX1_takeDepositBack 6 = .ok (.getfield 38, 3) := by decide +kernel
theorem dX1_takeDepositBack_9 : decode cX1_takeDepositBack 9 = .ok (.ladd, 1) := by decide +kernel
theorem dX1_takeDepositBack_10 : decode cX1_takeDepositBack 10 = .ok (.putfield 50, 3) := by decide +kernel
theorem dX1_takeDepositBack_13 : decode cX1_takeDepositBack 13 = .ok (.aload_n 0, 1) := by decide +kernel
theorem dX1_takeDepositBack_14 : decode cX1_takeDepositBack 14 = .ok (.lconst 0, 1) := by decide +kernel
theorem dX1_takeDepositBack_15 : decode cX1_takeDepositBack 15 = .ok (.putfield 38, 3) := by decide +kernel
theorem dX1_takeDepositBack_18 : decode cX1_takeDepositBack 18 = .ok (.return_, 1) := by decide +kernel
theorem dX1_valueOf_0 : decode cX1_valueOf 0 = .ok (.iload_n 1, 1) := by decide +kernel
theorem dX1_valueOf_1 : decode cX1_valueOf 1 = .ok (.tableswitch 129 1 10 #[55, 68, 81, 86, 91, 96, 101, 106, 111, 116], 55) := by decide +kernel
theorem dX1_valueOf_56 : decode cX1_valueOf 56 = .ok (.aload_n 0, 1) := by decide +kernel
theorem dX1_valueOf_57 : decode cX1_valueOf 57 = .ok (.getfield 21, 3) := by decide +kernel
theorem dX1_valueOf_60 : decode cX1_valueOf 60 = .ok (.ifCond .eq 7, 3) := by decide +kernel
theorem dX1_valueOf_63 : decode cX1_valueOf 63 = .ok (.lconst 1, 1) := by decide +kernel
theorem dX1_valueOf_64 : decode cX1_valueOf 64 = .ok (.goto 4, 3) := by decide +kernel
theorem dX1_valueOf_67 : decode cX1_valueOf 67 = .ok (.lconst 0, 1) := by decide +kernel
theorem dX1_valueOf_68 : decode cX1_valueOf 68 = .ok (.lreturn, 1) := by decide +kernel
theorem dX1_valueOf_69 : decode cX1_valueOf 69 = .ok (.aload_n 0, 1) := by decide +kernel
theorem dX1_valueOf_70 : decode cX1_valueOf 70 = .ok (.getfield 25, 3) := by decide +kernel
theorem dX1_valueOf_73 : decode cX1_valueOf 73 = .ok (.ifCond .eq 7, 3) := by decide +kernel
theorem dX1_valueOf_76 : decode cX1_valueOf 76 = .ok (.lconst 1, 1) := by decide +kernel
theorem dX1_valueOf_77 : decode cX1_valueOf 77 = .ok (.goto 4, 3) := by decide +kernel
theorem dX1_valueOf_80 : decode cX1_valueOf 80 = .ok (.lconst 0, 1) := by decide +kernel
theorem dX1_valueOf_81 : decode cX1_valueOf 81 = .ok (.lreturn, 1) := by decide +kernel
theorem dX1_valueOf_82 : decode cX1_valueOf 82 = .ok (.aload_n 0, 1) := by decide +kernel
theorem dX1_valueOf_83 : decode cX1_valueOf 83 = .ok (.getfield 31, 3) := by decide +kernel
theorem dX1_valueOf_86 : decode cX1_valueOf 86 = .ok (.lreturn, 1) := by decide +kernel
theorem dX1_valueOf_87 : decode cX1_valueOf 87 = .ok (.aload_n 0, 1) := by decide +kernel
theorem dX1_valueOf_88 : decode cX1_valueOf 88 = .ok (.getfield 35, 3) := by decide +kernel
theorem dX1_valueOf_91 : decode cX1_valueOf 91 = .ok (.lreturn, 1) := by decide +kernel
theorem dX1_valueOf_92 : decode cX1_valueOf 92 = .ok (.aload_n 0, 1) := by decide +kernel
theorem dX1_valueOf_93 : decode cX1_valueOf 93 = .ok (.getfield 38, 3) := by decide +kernel
theorem dX1_valueOf_96 : decode cX1_valueOf 96 = .ok (.lreturn, 1) := by decide +kernel
theorem dX1_valueOf_97 : decode cX1_valueOf 97 = .ok (.aload_n 0, 1) := by decide +kernel
theorem dX1_valueOf_98 : decode cX1_valueOf 98 = .ok (.getfield 41, 3) := by decide +kernel
theorem dX1_valueOf_101 : decode cX1_valueOf 101 = .ok (.lreturn, 1) := by decide +kernel
theorem dX1_valueOf_102 : decode cX1_valueOf 102 = .ok (.aload_n 0, 1) := by decide +kernel
theorem dX1_valueOf_103 : decode cX1_valueOf 103 = .ok (.getfield 44, 3) := by decide +kernel
theorem dX1_valueOf_106 : decode cX1_valueOf 106 = .ok (.lreturn, 1) := by decide +kernel
theorem dX1_valueOf_107 : decode cX1_valueOf 107 = .ok (.aload_n 0, 1) := by decide +kernel
theorem dX1_valueOf_108 : decode cX1_valueOf 108 = .ok (.getfield 47, 3) := by decide +kernel
theorem dX1_valueOf_111 : decode cX1_valueOf 111 = .ok (.lreturn, 1) := by decide +kernel
theorem dX1_valueOf_112 : decode cX1_valueOf 112 = .ok (.aload_n 0, 1) := by decide +kernel
theorem dX1_valueOf_113 : decode cX1_valueOf 113 = .ok (.getfield 50, 3) := by decide +kernel
theorem dX1_valueOf_116 : decode cX1_valueOf 116 = .ok (.lreturn, 1) := by decide +kernel
theorem dX1_valueOf_117 : decode cX1_valueOf 117 = .ok (.aload_n 0, 1) := by decide +kernel
theorem dX1_valueOf_118 : decode cX1_valueOf 118 = .ok (.getfield 28, 3) := by decide +kernel
theorem dX1_valueOf_121 : decode cX1_valueOf 121 = .ok (.ifCond .eq 7, 3) := by decide +kernel
theorem dX1_valueOf_124 : decode cX1_valueOf 124 = .ok (.lconst 1, 1) := by decide +kernel
theorem dX1_valueOf_125 : decode cX1_valueOf 125 = .ok (.goto 4, 3) := by decide +kernel
theorem dX1_valueOf_128 : decode cX1_valueOf 128 = .ok (.lconst 0, 1) := by decide +kernel
theorem dX1_valueOf_129 : decode cX1_valueOf 129 = .ok (.lreturn, 1) := by decide +kernel
theorem dX1_valueOf_130 : decode cX1_valueOf 130 = .ok (.ldc2_w 81, 3) := by decide +kernel
theorem dX1_valueOf_133 : decode cX1_valueOf 133 = .ok (.lreturn, 1) := by decide +kernel
theorem dX2_init_0 : decode cX2_init 0 = .ok (.aload_n 0, 1) := by decide +kernel
theorem dX2_init_1 : decode cX2_init 1 = .ok (.invokespecial 3, 3) := by decide +kernel
theorem dX2_init_4 : decode cX2_init 4 = .ok (.aload_n 0, 1) := by decide +kernel
theorem dX2_init_5 : decode cX2_init 5 = .ok (.iload_n 1, 1) := by decide +kernel
theorem dX2_init_6 : decode cX2_init 6 = .ok (.putfield 9, 3) := by decide +kernel
theorem dX2_init_9 : decode cX2_init 9 = .ok (.aload_n 0, 1) := by decide +kernel
theorem dX2_init_10 : decode cX2_init 10 = .ok (.lload_n 2, 1) := by decide +kernel
theorem dX2_init_11 : decode cX2_init 11 = .ok (.putfield 15, 3) := by decide +kernel
theorem dX2_init_14 : decode cX2_init 14 = .ok (.aload_n 0, 1) := by decide +kernel
theorem dX2_init_15 : decode cX2_init 15 = .ok (.lload 4, 2) := by decide +kernel
theorem dX2_init_17 : decode cX2_init 17 = .ok (.putfield 19, 3) := by decide +kernel
theorem dX2_init_20 : decode cX2_init 20 = .ok (.aload_n 0, 1) := by decide +kernel
theorem dX2_init_21 : decode cX2_init 21 = .ok (.bipush 60, 2) := by decide +kernel
theorem dX2_init_23 : decode cX2_init 23 = .ok (.newarray .int, 2) := by decide +kernel
theorem dX2_init_25 : decode cX2_init 25 = .ok (.putfield 22, 3) := by decide +kernel
theorem dX2_init_28 : decode cX2_init 28 = .ok (.aload_n 0, 1) := by decide +kernel
theorem dX2_init_29 : decode cX2_init 29 = .ok (.bipush 60, 2) := by decide +kernel
theorem dX2_init_31 : decode cX2_init 31 = .ok (.newarray .int, 2) := by decide +kernel
theorem dX2_init_33 : decode cX2_init 33 = .ok (.putfield 26, 3) := by decide +kernel
theorem dX2_init_36 : decode cX2_init 36 = .ok (.aload_n 0, 1) := by decide +kernel
theorem dX2_init_37 : decode cX2_init 37 = .ok (.sipush 240, 3) := by decide +kernel
theorem dX2_init_40 : decode cX2_init 40 = .ok (.newarray .long, 2) := by decide +kernel
theorem dX2_init_42 : decode cX2_init 42 = .ok (.putfield 29, 3) := by decide +kernel
theorem dX2_init_45 : decode cX2_init 45 = .ok (.aload_n 0, 1) := by decide +kernel
theorem dX2_init_46 : decode cX2_init 46 = .ok (.sipush 512, 3) := by decide +kernel
theorem dX2_init_49 : decode cX2_init 49 = .ok (.anewarray 33, 3) := by decide +kernel
theorem dX2_init_52 : decode cX2_init 52 = .ok (.putfield 35, 3) := by decide +kernel
theorem dX2_init_55 : decode cX2_init 55 = .ok (.aload_n 0, 1) := by decide +kernel
theorem dX2_init_56 : decode cX2_init 56 = .ok (.new 39, 3) := by decide +kernel
theorem dX2_init_59 : decode cX2_init 59 = .ok (.dup, 1) := by decide +kernel
theorem dX2_init_60 : decode cX2_init 60 = .ok (.invokespecial 41, 3) := by decide +kernel
theorem dX2_init_63 : decode cX2_init 63 = .ok (.putfield 42, 3) := by decide +kernel
theorem dX2_init_66 : decode cX2_init 66 = .ok (.aload_n 0, 1) := by decide +kernel
theorem dX2_init_67 : decode cX2_init 67 = .ok (.getfield 42, 3) := by decide +kernel
theorem dX2_init_70 : decode cX2_init 70 = .ok (.lload 6, 2) := by decide +kernel
theorem dX2_init_72 : decode cX2_init 72 = .ok (.putfield 46, 3) := by decide +kernel
theorem dX2_init_75 : decode cX2_init 75 = .ok (.aload_n 0, 1) := by decide +kernel
theorem dX2_init_76 : decode cX2_init 76 = .ok (.bipush 60, 2) := by decide +kernel
theorem dX2_init_78 : decode cX2_init 78 = .ok (.anewarray 39, 3) := by decide +kernel
theorem dX2_init_81 : decode cX2_init 81 = .ok (.putfield 49, 3) := by decide +kernel
theorem dX2_init_84 : decode cX2_init 84 = .ok (.return_, 1) := by decide +kernel
theorem dX2_imageOfThis_0 : decode cX2_imageOfThis 0 = .ok (.new 10, 3) := by decide +kernel
theorem dX2_imageOfThis_3 : decode cX2_imageOfThis 3 = .ok (.dup, 1) := by decide +kernel
theorem dX2_imageOfThis_4 : decode cX2_imageOfThis 4 = .ok (.aload_n 0, 1) := by decide +kernel
theorem dX2_imageOfThis_5 : decode cX2_imageOfThis 5 = .ok (.getfield 9, 3) := by decide +kernel
theorem dX2_imageOfThis_8 : decode cX2_imageOfThis 8 = .ok (.aload_n 0, 1) := by decide +kernel
theorem dX2_imageOfThis_9 : decode cX2_imageOfThis 9 = .ok (.getfield 15, 3) := by decide +kernel
theorem dX2_imageOfThis_12 : decode cX2_imageOfThis 12 = .ok (.aload_n 0, 1) := by decide +kernel
theorem dX2_imageOfThis_13 : decode cX2_imageOfThis 13 = .ok (.getfield 19, 3) := by decide +kernel
theorem dX2_imageOfThis_16 : decode cX2_imageOfThis 16 = .ok (.lconst 0, 1) := by decide +kernel
theorem dX2_imageOfThis_17 : decode cX2_imageOfThis 17 = .ok (.invokespecial 53, 3) := by decide +kernel
theorem dX2_imageOfThis_20 : decode cX2_imageOfThis 20 = .ok (.astore_n 1, 1) := by decide +kernel
theorem dX2_imageOfThis_21 : decode cX2_imageOfThis 21 = .ok (.aload_n 0, 1) := by decide +kernel
theorem dX2_imageOfThis_22 : decode cX2_imageOfThis 22 = .ok (.getfield 22, 3) := by decide +kernel
theorem dX2_imageOfThis_25 : decode cX2_imageOfThis 25 = .ok (.iconst 0, 1) := by decide +kernel
theorem dX2_imageOfThis_26 : decode cX2_imageOfThis 26 = .ok (.aload_n 1, 1) := by decide +kernel
theorem dX2_imageOfThis_27 : decode cX2_imageOfThis 27 = .ok (.getfield 22, 3) := by decide +kernel
theorem dX2_imageOfThis_30 : decode cX2_imageOfThis 30 = .ok (.iconst 0, 1) := by decide +kernel
theorem dX2_imageOfThis_31 : decode cX2_imageOfThis 31 = .ok (.bipush 60, 2) := by decide +kernel
theorem dX2_imageOfThis_33 : decode cX2_imageOfThis 33 = .ok (.invokestatic 56, 3) := by decide +kernel
theorem dX2_imageOfThis_36 : decode cX2_imageOfThis 36 = .ok (.aload_n 1, 1) := by decide +kernel
theorem dX2_imageOfThis_37 : decode cX2_imageOfThis 37 = .ok (.aload_n 0, 1) := by decide +kernel
theorem dX2_imageOfThis_38 : decode cX2_imageOfThis 38 = .ok (.getfield 62, 3) := by decide +kernel
theorem dX2_imageOfThis_41 : decode cX2_imageOfThis 41 = .ok (.putfield 62, 3) := by decide +kernel
theorem dX2_imageOfThis_44 : decode cX2_imageOfThis 44 = .ok (.aload_n 0, 1) := by decide +kernel
theorem dX2_imageOfThis_45 : decode cX2_imageOfThis 45 = .ok (.getfield 26, 3) := by decide +kernel
theorem dX2_imageOfThis_48 : decode cX2_imageOfThis 48 = .ok (.iconst 0, 1) := by decide +kernel
theorem dX2_imageOfThis_49 : decode cX2_imageOfThis 49 = .ok (.aload_n 1, 1) := by decide +kernel
theorem dX2_imageOfThis_50 : decode cX2_imageOfThis 50 = .ok (.getfield 26, 3) := by decide +kernel
theorem dX2_imageOfThis_53 : decode cX2_imageOfThis 53 = .ok (.iconst 0, 1) := by decide +kernel
theorem dX2_imageOfThis_54 : decode cX2_imageOfThis 54 = .ok (.bipush 60, 2) := by decide +kernel
theorem dX2_imageOfThis_56 : decode cX2_imageOfThis 56 = .ok (.invokestatic 56, 3) := by decide +kernel
theorem dX2_imageOfThis_59 : decode cX2_imageOfThis 59 = .ok (.aload_n 0, 1) := by decide +kernel
theorem dX2_imageOfThis_60 : decode cX2_imageOfThis 60 = .ok (.getfield 29, 3) := by decide +kernel
theorem dX2_imageOfThis_63 : decode cX2_imageOfThis 63 = .ok (.iconst 0, 1) := by decide +kernel
theorem dX2_imageOfThis_64 : decode cX2_imageOfThis 64 = .ok (.aload_n 1, 1) := by decide +kernel
theorem dX2_imageOfThis_65 : decode cX2_imageOfThis 65 = .ok (.getfield 29, 3) := by decide +kernel
theorem dX2_imageOfThis_68 : decode cX2_imageOfThis 68 = .ok (.iconst 0, 1) := by decide +kernel
theorem dX2_imageOfThis_69 : decode cX2_imageOfThis 69 = .ok (.sipush 240, 3) := by decide +kernel
theorem dX2_imageOfThis_72 : decode cX2_imageOfThis 72 = .ok (.invokestatic 56, 3) := by decide +kernel
theorem dX2_imageOfThis_75 : decode cX2_imageOfThis 75 = .ok (.iconst 0, 1) := by decide +kernel
theorem dX2_imageOfThis_76 : decode cX2_imageOfThis 76 = .ok (.istore_n 2, 1) := by decide +kernel
theorem dX2_imageOfThis_77 : decode cX2_imageOfThis 77 = .ok (.iload_n 2, 1) := by decide +kernel
theorem dX2_imageOfThis_78 : decode cX2_imageOfThis 78 = .ok (.aload_n 0, 1) := by decide +kernel
theorem dX2_imageOfThis_79 : decode cX2_imageOfThis 79 = .ok (.getfield 42, 3) := by decide +kernel
theorem dX2_imageOfThis_82 : decode cX2_imageOfThis 82 = .ok (.getfield 65, 3) := by decide +kernel
theorem dX2_imageOfThis_85 : decode cX2_imageOfThis 85 = .ok (.if_icmp .ge 53, 3) := by decide +kernel
theorem dX2_imageOfThis_88 : decode cX2_imageOfThis 88 = .ok (.iload_n 2, 1) := by decide +kernel
theorem dX2_imageOfThis_89 : decode cX2_imageOfThis 89 = .ok (.sipush 512, 3) := by decide +kernel
theorem dX2_imageOfThis_92 : decode cX2_imageOfThis 92 = .ok (.if_icmp .ge 46, 3) := by decide +kernel
theorem dX2_imageOfThis_95 : decode cX2_imageOfThis 95 = .ok (.aload_n 0, 1) := by decide +kernel
theorem dX2_imageOfThis_96 : decode cX2_imageOfThis 96 = .ok (.getfield 35, 3) := by decide +kernel
theorem dX2_imageOfThis_99 : decode cX2_imageOfThis 99 = .ok (.iload_n 2, 1) := by decide +kernel
theorem dX2_imageOfThis_100 : decode cX2_imageOfThis 100 = .ok (.aaload, 1) := by decide +kernel
theorem dX2_imageOfThis_101 : decode cX2_imageOfThis 101 = .ok (.ifnull 31, 3) := by decide +kernel
theorem dX2_imageOfThis_104 : decode cX2_imageOfThis 104 = .ok (.aload_n 1, 1) := by decide +kernel
theorem dX2_imageOfThis_105 : decode cX2_imageOfThis 105 = .ok (.getfield 35, 3) := by decide +kernel
theorem dX2_imageOfThis_108 : decode cX2_imageOfThis 108 = .ok (.iload_n 2, 1) := by decide +kernel
theorem dX2_imageOfThis_109 : decode cX2_imageOfThis 109 = .ok (.new 33, 3) := by decide +kernel
theorem dX2_imageOfThis_112 : decode cX2_imageOfThis 112 = .ok (.dup, 1) := by decide +kernel
theorem dX2_imageOfThis_113 : decode cX2_imageOfThis 113 = .ok (.invokespecial 68, 3) := by decide +kernel
theorem dX2_imageOfThis_116 : decode cX2_imageOfThis 116 = .ok (.aastore, 1) := by decide +kernel
theorem dX2_imageOfThis_117 : decode cX2_imageOfThis 117 = .ok (.aload_n 1, 1) := by decide +kernel
theorem dX2_imageOfThis_118 : decode cX2_imageOfThis 118 = .ok (.getfield 35, 3) := by decide +kernel
theorem dX2_imageOfThis_121 : decode cX2_imageOfThis 121 = .ok (.iload_n 2, 1) := by decide +kernel
theorem dX2_imageOfThis_122 : decode cX2_imageOfThis 122 = .ok (.aaload, 1) := by decide +kernel
theorem dX2_imageOfThis_123 : decode cX2_imageOfThis 123 = .ok (.aload_n 0, 1) := by decide +kernel
theorem dX2_imageOfThis_124 : decode cX2_imageOfThis 124 = .ok (.getfield 35, 3) := by decide +kernel
theorem dX2_imageOfThis_127 : decode cX2_imageOfThis 127 = .ok (.iload_n 2, 1) := by decide +kernel
theorem dX2_imageOfThis_128 : decode cX2_imageOfThis 128 = .ok (.aaload, 1) := by decide +kernel
theorem dX2_imageOfThis_129 : decode cX2_imageOfThis 129 = .ok (.invokevirtual 69, 3) := by decide +kernel
theorem dX2_imageOfThis_132 : decode cX2_imageOfThis 132 = .ok (.iinc 2 1, 3) := by decide +kernel
theorem dX2_imageOfThis_135 : decode cX2_imageOfThis 135 = .ok (.goto (-58), 3) := by decide +kernel
theorem dX2_imageOfThis_138 : decode cX2_imageOfThis 138 = .ok (.aload_n 1, 1) := by decide +kernel
theorem dX2_imageOfThis_139 : decode cX2_imageOfThis 139 = .ok (.getfield 42, 3) := by decide +kernel
theorem dX2_imageOfThis_142 : decode cX2_imageOfThis 142 = .ok (.aload_n 0, 1) := by decide +kernel
theorem dX2_imageOfThis_143 : decode cX2_imageOfThis 143 = .ok (.getfield 42, 3) := by decide +kernel
theorem dX2_imageOfThis_146 : decode cX2_imageOfThis 146 = .ok (.invokevirtual 73, 3) := by decide +kernel
theorem dX2_imageOfThis_149 : decode cX2_imageOfThis 149 = .ok (.aload_n 1, 1) := by decide +kernel
theorem dX2_imageOfThis_150 : decode cX2_imageOfThis 150 = .ok (.aload_n 0, 1) := by decide +kernel
theorem dX2_imageOfThis_151 : decode cX2_imageOfThis 151 = .ok (.getfield 42, 3) := by decide +kernel
theorem dX2_imageOfThis_154 : decode cX2_imageOfThis 154 = .ok (.getfield 76, 3) := by decide +kernel
theorem dX2_imageOfThis_157 : decode cX2_imageOfThis 157 = .ok (.putfield 79, 3) := by decide +kernel
theorem dX2_imageOfThis_160 : decode cX2_imageOfThis 160 = .ok (.aload_n 1, 1) := by decide +kernel
theorem dX2_imageOfThis_161 : decode cX2_imageOfThis 161 = .ok (.areturn, 1) := by decide +kernel
theorem dX2_purse_0 : decode cX2_purse 0 = .ok (.aload_n 0, 1) := by decide +kernel
theorem dX2_purse_1 : decode cX2_purse 1 = .ok (.getfield 15, 3) := by decide +kernel
theorem dX2_purse_4 : decode cX2_purse 4 = .ok (.aload_n 0, 1) := by decide +kernel
theorem dX2_purse_5 : decode cX2_purse 5 = .ok (.getfield 42, 3) := by decide +kernel
theorem dX2_purse_8 : decode cX2_purse 8 = .ok (.getfield 82, 3) := by decide +kernel
theorem dX2_purse_11 : decode cX2_purse 11 = .ok (.i2l, 1) := by decide +kernel
theorem dX2_purse_12 : decode cX2_purse 12 = .ok (.lmul, 1) := by decide +kernel
theorem dX2_purse_13 : decode cX2_purse 13 = .ok (.lreturn, 1) := by decide +kernel
theorem dX2_seatOther_0 : decode cX2_seatOther 0 = .ok (.aload_n 0, 1) := by decide +kernel
theorem dX2_seatOther_1 : decode cX2_seatOther 1 = .ok (.getfield 42, 3) := by decide +kernel
theorem dX2_seatOther_4 : decode cX2_seatOther 4 = .ok (.getfield 85, 3) := by decide +kernel
theorem dX2_seatOther_7 : decode cX2_seatOther 7 = .ok (.ifCond .eq 5, 3) := by decide +kernel
theorem dX2_seatOther_10 : decode cX2_seatOther 10 = .ok (.iconst 2, 1) := by decide +kernel
theorem dX2_seatOther_11 : decode cX2_seatOther 11 = .ok (.ireturn, 1) := by decide +kernel
theorem dX2_seatOther_12 : decode cX2_seatOther 12 = .ok (.aload_n 0, 1) := by decide +kernel
theorem dX2_seatOther_13 : decode cX2_seatOther 13 = .ok (.getfield 42, 3) := by decide +kernel
theorem dX2_seatOther_16 : decode cX2_seatOther 16 = .ok (.iload_n 1, 1) := by decide +kernel
theorem dX2_seatOther_17 : decode cX2_seatOther 17 = .ok (.invokevirtual 88, 3) := by decide +kernel
theorem dX2_seatOther_20 : decode cX2_seatOther 20 = .ok (.astore 4, 2) := by decide +kernel
theorem dX2_seatOther_22 : decode cX2_seatOther 22 = .ok (.aload 4, 2) := by decide +kernel
theorem dX2_seatOther_24 : decode cX2_seatOther 24 = .ok (.ifnonnull 5, 3) := by decide +kernel
theorem dX2_seatOther_27 : decode cX2_seatOther 27 = .ok (.iconst 3, 1) := by decide +kernel
theorem dX2_seatOther_28 : decode cX2_seatOther 28 = .ok (.ireturn, 1) := by decide +kernel
theorem dX2_seatOther_29 : decode cX2_seatOther 29 = .ok (.iload_n 2, 1) := by decide +kernel
theorem dX2_seatOther_30 : decode cX2_seatOther 30 = .ok (.i2l, 1) := by decide +kernel
theorem dX2_seatOther_31 : decode cX2_seatOther 31 = .ok (.lconst 0, 1) := by decide +kernel
theorem dX2_seatOther_32 : decode cX2_seatOther 32 = .ok (.ldc2_w 92, 3) := by decide +kernel
theorem dX2_seatOther_35 : decode cX2_seatOther 35 = .ok (.invokestatic 94, 3) := by decide +kernel
theorem dX2_seatOther_38 : decode cX2_seatOther 38 = .ok (.ifCond .ne 5, 3) := by decide +kernel
theorem dX2_seatOther_41 : decode cX2_seatOther 41 = .ok (.iconst 4, 1) := by decide +kernel
theorem dX2_seatOther_42 : decode cX2_seatOther 42 = .ok (.ireturn, 1) := by decide +kernel
theorem dX2_seatOther_43 : decode cX2_seatOther 43 = .ok (.aload 4, 2) := by decide +kernel
theorem dX2_seatOther_45 : decode cX2_seatOther 45 = .ok (.iload_n 2, 1) := by decide +kernel
theorem dX2_seatOther_46 : decode cX2_seatOther 46 = .ok (.putfield 98, 3) := by decide +kernel
theorem dX2_seatOther_49 : decode cX2_seatOther 49 = .ok (.aload 4, 2) := by decide +kernel
theorem dX2_seatOther_51 : decode cX2_seatOther 51 = .ok (.iload_n 2, 1) := by decide +kernel
theorem dX2_seatOther_52 : decode cX2_seatOther 52 = .ok (.iconst 1, 1) := by decide +kernel
theorem dX2_seatOther_53 : decode cX2_seatOther 53 = .ok (.if_icmp .ne 7, 3) := by decide +kernel
theorem dX2_seatOther_56 : decode cX2_seatOther 56 = .ok (.iload_n 3, 1) := by decide +kernel
theorem dX2_seatOther_57 : decode cX2_seatOther 57 = .ok (.goto 4, 3) := by decide +kernel
theorem dX2_seatOther_60 : decode cX2_seatOther 60 = .ok (.iconst 0, 1) := by decide +kernel
theorem dX2_seatOther_61 : decode cX2_seatOther 61 = .ok (.putfield 103, 3) := by decide +kernel
theorem dX2_seatOther_64 : decode cX2_seatOther 64 = .ok (.iconst 0, 1) := by decide +kernel
theorem dX2_seatOther_65 : decode cX2_seatOther 65 = .ok (.ireturn, 1) := by decide +kernel
theorem dX2_answerFor_0 : decode cX2_answerFor 0 = .ok (.aload_n 0, 1) := by decide +kernel
theorem dX2_answerFor_1 : decode cX2_answerFor 1 = .ok (.getfield 42, 3) := by decide +kernel
theorem dX2_answerFor_4 : decode cX2_answerFor 4 = .ok (.getfield 85, 3) := by decide +kernel
theorem dX2_answerFor_7 : decode cX2_answerFor 7 = .ok (.ifCond .eq 5, 3) := by decide +kernel
theorem dX2_answerFor_10 : decode cX2_answerFor 10 = .ok (.iconst 2, 1) := by decide +kernel
theorem dX2_answerFor_11 : decode cX2_answerFor 11 = .ok (.ireturn, 1) := by decide +kernel
theorem dX2_answerFor_12 : decode cX2_answerFor 12 = .ok (.aload_n 0, 1) := by decide +kernel
theorem dX2_answerFor_13 : decode cX2_answerFor 13 = .ok (.getfield 42, 3) := by decide +kernel
theorem dX2_answerFor_16 : decode cX2_answerFor 16 = .ok (.iload_n 1, 1) := by decide +kernel
theorem dX2_answerFor_17 : decode cX2_answerFor 17 = .ok (.invokevirtual 88, 3) := by decide +kernel
theorem dX2_answerFor_20 : decode cX2_answerFor 20 = .ok (.astore_n 3, 1) := by decide +kernel
theorem dX2_answerFor_21 : decode cX2_answerFor 21 = .ok (.aload_n 3, 1) := by decide +kernel
theorem dX2_answerFor_22 : decode cX2_answerFor 22 = .ok (.ifnull 10, 3) := by decide +kernel
theorem dX2_answerFor_25 : decode cX2_answerFor 25 = .ok (.aload_n 3, 1) := by decide +kernel
theorem dX2_answerFor_26 : decode cX2_answerFor 26 = .ok (.getfield 98, 3) := by decide +kernel
theorem dX2_answerFor_29 : decode cX2_answerFor 29 = .ok (.ifCond .ne 5, 3) := by decide +kernel
theorem dX2_answerFor_32 : decode cX2_answerFor 32 = .ok (.iconst 3, 1) := by decide +kernel
theorem dX2_answerFor_33 : decode cX2_answerFor 33 = .ok (.ireturn, 1) := by decide +kernel
theorem dX2_answerFor_34 : decode cX2_answerFor 34 = .ok (.aload_n 3, 1) := by decide +kernel
theorem dX2_answerFor_35 : decode cX2_answerFor 35 = .ok (.getfield 98, 3) := by decide +kernel
theorem dX2_answerFor_38 : decode cX2_answerFor 38 = .ok (.iconst 4, 1) := by decide +kernel
theorem dX2_answerFor_39 : decode cX2_answerFor 39 = .ok (.if_icmp .eq 5, 3) := by decide +kernel
theorem dX2_answerFor_42 : decode cX2_answerFor 42 = .ok (.iconst 4, 1) := by decide +kernel
theorem dX2_answerFor_43 : decode cX2_answerFor 43 = .ok (.ireturn, 1) := by decide +kernel
theorem dX2_answerFor_44 : decode cX2_answerFor 44 = .ok (.aload_n 0, 1) := by decide +kernel
theorem dX2_answerFor_45 : decode cX2_answerFor 45 = .ok (.getfield 42, 3) := by decide +kernel
theorem dX2_answerFor_48 : decode cX2_answerFor 48 = .ok (.iload_n 2, 1) := by decide +kernel
theorem dX2_answerFor_49 : decode cX2_answerFor 49 = .ok (.invokevirtual 106, 3) := by decide +kernel
theorem dX2_answerFor_52 : decode cX2_answerFor 52 = .ok (.astore 4, 2) := by decide +kernel
theorem dX2_answerFor_54 : decode cX2_answerFor 54 = .ok (.aload 4, 2) := by decide +kernel
theorem dX2_answerFor_56 : decode cX2_answerFor 56 = .ok (.ifnull 8, 3) := by decide +kernel
theorem dX2_answerFor_59 : decode cX2_answerFor 59 = .ok (.iload_n 2, 1) := by decide +kernel
theorem dX2_answerFor_60 : decode cX2_answerFor 60 = .ok (.iload_n 1, 1) := by decide +kernel
theorem dX2_answerFor_61 : decode cX2_answerFor 61 = .ok (.if_icmp .ne 5, 3) := by decide +kernel
theorem dX2_answerFor_64 : decode cX2_answerFor 64 = .ok (.iconst 3, 1) := by decide +kernel
theorem dX2_answerFor_65 : decode cX2_answerFor 65 = .ok (.ireturn, 1) := by decide +kernel
theorem dX2_answerFor_66 : decode cX2_answerFor 66 = .ok (.aload 4, 2) := by decide +kernel
theorem dX2_answerFor_68 : decode cX2_answerFor 68 = .ok (.getfield 109, 3) := by decide +kernel
theorem dX2_answerFor_71 : decode cX2_answerFor 71 = .ok (.iload_n 1, 1) := by decide +kernel
theorem dX2_answerFor_72 : decode cX2_answerFor 72 = .ok (.if_icmp .ne 6, 3) := by decide +kernel
theorem dX2_answerFor_75 : decode cX2_answerFor 75 = .ok (.bipush 8, 2) := by decide +kernel
theorem dX2_answerFor_77 : decode cX2_answerFor 77 = .ok (.ireturn, 1) := by decide +kernel
theorem dX2_answerFor_78 : decode cX2_answerFor 78 = .ok (.aload 4, 2) := by decide +kernel
theorem dX2_answerFor_80 : decode cX2_answerFor 80 = .ok (.iload_n 1, 1) := by decide +kernel
theorem dX2_answerFor_81 : decode cX2_answerFor 81 = .ok (.putfield 109, 3) := by decide +kernel
theorem dX2_answerFor_84 : decode cX2_answerFor 84 = .ok (.iconst 0, 1) := by decide +kernel
theorem dX2_answerFor_85 : decode cX2_answerFor 85 = .ok (.ireturn, 1) := by decide +kernel
theorem dX2_tellNext_0 : decode cX2_tellNext 0 = .ok (.aload_n 0, 1) := by decide +kernel
theorem dX2_tellNext_1 : decode cX2_tellNext 1 = .ok (.getfield 42, 3) := by decide +kernel
theorem dX2_tellNext_4 : decode cX2_tellNext 4 = .ok (.getfield 85, 3) := by decide +kernel
theorem dX2_tellNext_7 : decode cX2_tellNext 7 = .ok (.ifCond .eq 5, 3) := by decide +kernel
theorem dX2_tellNext_10 : decode cX2_tellNext 10 = .ok (.iconst 2, 1) := by decide +kernel
theorem dX2_tellNext_11 : decode cX2_tellNext 11 = .ok (.ireturn, 1) := by decide +kernel
theorem dX2_tellNext_12 : decode cX2_tellNext 12 = .ok (.aload_n 0, 1) := by decide +kernel
theorem dX2_tellNext_13 : decode cX2_tellNext 13 = .ok (.getfield 42, 3) := by decide +kernel
theorem dX2_tellNext_16 : decode cX2_tellNext 16 = .ok (.iload_n 1, 1) := by decide +kernel
theorem dX2_tellNext_17 : decode cX2_tellNext 17 = .ok (.invokevirtual 106, 3) := by decide +kernel
theorem dX2_tellNext_20 : decode cX2_tellNext 20 = .ok (.ifnonnull 5, 3) := by decide +kernel
theorem dX2_tellNext_23 : decode cX2_tellNext 23 = .ok (.iconst 3, 1) := by decide +kernel
theorem dX2_tellNext_24 : decode cX2_tellNext 24 = .ok (.ireturn, 1) := by decide +kernel
theorem dX2_tellNext_25 : decode cX2_tellNext 25 = .ok (.aload_n 0, 1) := by decide +kernel
theorem dX2_tellNext_26 : decode cX2_tellNext 26 = .ok (.getfield 9, 3) := by decide +kernel
theorem dX2_tellNext_29 : decode cX2_tellNext 29 = .ok (.ifCond .eq 5, 3) := by decide +kernel
theorem dX2_tellNext_32 : decode cX2_tellNext 32 = .ok (.iconst 4, 1) := by decide +kernel
theorem dX2_tellNext_33 : decode cX2_tellNext 33 = .ok (.ireturn, 1) := by decide +kernel
theorem dX2_tellNext_34 : decode cX2_tellNext 34 = .ok (.aload_n 0, 1) := by decide +kernel
theorem dX2_tellNext_35 : decode cX2_tellNext 35 = .ok (.iload_n 1, 1) := by decide +kernel
theorem dX2_tellNext_36 : decode cX2_tellNext 36 = .ok (.invokevirtual 112, 3) := by decide +kernel
theorem dX2_tellNext_39 : decode cX2_tellNext 39 = .ok (.ifCond .ne 12, 3) := by decide +kernel
theorem dX2_tellNext_42 : decode cX2_tellNext 42 = .ok (.aload_n 0, 1) := by decide +kernel
theorem dX2_tellNext_43 : decode cX2_tellNext 43 = .ok (.getfield 62, 3) := by decide +kernel
theorem dX2_tellNext_46 : decode cX2_tellNext 46 = .ok (.bipush 60, 2) := by decide +kernel
theorem dX2_tellNext_48 : decode cX2_tellNext 48 = .ok (.if_icmp .lt 6, 3) := by decide +kernel
theorem dX2_tellNext_51 : decode cX2_tellNext 51 = .ok (.bipush 8, 2) := by decide +kernel
theorem dX2_tellNext_53 : decode cX2_tellNext 53 = .ok (.ireturn, 1) := by decide +kernel
theorem dX2_tellNext_54 : decode cX2_tellNext 54 = .ok (.aload_n 0, 1) := by decide +kernel
theorem dX2_tellNext_55 : decode cX2_tellNext 55 = .ok (.getfield 22, 3) := by decide +kernel
theorem dX2_tellNext_58 : decode cX2_tellNext 58 = .ok (.aload_n 0, 1) := by decide +kernel
theorem dX2_tellNext_59 : decode cX2_tellNext 59 = .ok (.getfield 62, 3) := by decide +kernel
theorem dX2_tellNext_62 : decode cX2_tellNext 62 = .ok (.iload_n 1, 1) := by decide +kernel
theorem dX2_tellNext_63 : decode cX2_tellNext 63 = .ok (.iastore, 1) := by decide +kernel
theorem dX2_tellNext_64 : decode cX2_tellNext 64 = .ok (.aload_n 0, 1) := by decide +kernel
theorem dX2_tellNext_65 : decode cX2_tellNext 65 = .ok (.dup, 1) := by decide +kernel
theorem dX2_tellNext_66 : decode cX2_tellNext 66 = .ok (.getfield 62, 3) := by decide +kernel
theorem dX2_tellNext_69 : decode cX2_tellNext 69 = .ok (.iconst 1, 1) := by decide +kernel
theorem dX2_tellNext_70 : decode cX2_tellNext 70 = .ok (.iadd, 1) := by decide +kernel
theorem dX2_tellNext_71 : decode cX2_tellNext 71 = .ok (.putfield 62, 3) := by decide +kernel
theorem dX2_tellNext_74 : decode cX2_tellNext 74 = .ok (.iconst 0, 1) := by decide +kernel
theorem dX2_tellNext_75 : decode cX2_tellNext 75 = .ok (.ireturn, 1) := by decide +kernel
theorem dX2_isTold_0 : decode cX2_isTold 0 = .ok (.iconst 0, 1) := by decide +kernel
theorem dX2_isTold_1 : decode cX2_isTold 1 = .ok (.istore_n 2, 1) := by decide +kernel
theorem dX2_isTold_2 : decode cX2_isTold 2 = .ok (.iload_n 2, 1) := by decide +kernel
theorem dX2_isTold_3 : decode cX2_isTold 3 = .ok (.aload_n 0, 1) := by decide +kernel
theorem dX2_isTold_4 : decode cX2_isTold 4 = .ok (.getfield 62, 3) := by decide +kernel
theorem dX2_isTold_7 : decode cX2_isTold 7 = .ok (.if_icmp .ge 27, 3) := by decide +kernel
theorem dX2_isTold_10 : decode cX2_isTold 10 = .ok (.iload_n 2, 1) := by decide +kernel
theorem dX2_isTold_11 : decode cX2_isTold 11 = .ok (.bipush 60, 2) := by decide +kernel
theorem dX2_isTold_13 : decode cX2_isTold 13 = .ok (.if_icmp .ge 21, 3) := by decide +kernel
theorem dX2_isTold_16 : decode cX2_isTold 16 = .ok (.aload_n 0, 1) := by decide +kernel
theorem dX2_isTold_17 : decode cX2_isTold 17 = .ok (.getfield 22, 3) := by decide +kernel
theorem dX2_isTold_20 : decode cX2_isTold 20 = .ok (.iload_n 2, 1) := by decide +kernel
theorem dX2_isTold_21 : decode cX2_isTold 21 = .ok (.iaload, 1) := by decide +kernel
theorem dX2_isTold_22 : decode cX2_isTold 22 = .ok (.iload_n 1, 1) := by decide +kernel
theorem dX2_isTold_23 : decode cX2_isTold 23 = .ok (.if_icmp .ne 5, 3) := by decide +kernel
theorem dX2_isTold_26 : decode cX2_isTold 26 = .ok (.iconst 1, 1) := by decide +kernel
theorem dX2_isTold_27 : decode cX2_isTold 27 = .ok (.ireturn, 1) := by decide +kernel
theorem dX2_isTold_28 : decode cX2_isTold 28 = .ok (.iinc 2 1, 3) := by decide +kernel
theorem dX2_isTold_31 : decode cX2_isTold 31 = .ok (.goto (-29), 3) := by decide +kernel
theorem dX2_isTold_34 : decode cX2_isTold 34 = .ok (.iconst 0, 1) := by decide +kernel
theorem dX2_isTold_35 : decode cX2_isTold 35 = .ok (.ireturn, 1) := by decide +kernel
theorem dX2_tellLot_0 : decode cX2_tellLot 0 = .ok (.aload_n 0, 1) := by decide +kernel
theorem dX2_tellLot_1 : decode cX2_tellLot 1 = .ok (.getfield 42, 3) := by decide +kernel
theorem dX2_tellLot_4 : decode cX2_tellLot 4 = .ok (.getfield 85, 3) := by decide +kernel
theorem dX2_tellLot_7 : decode cX2_tellLot 7 = .ok (.iconst 2, 1) := by decide +kernel
theorem dX2_tellLot_8 : decode cX2_tellLot 8 = .ok (.if_icmp .ne 5, 3) := by decide +kernel
theorem dX2_tellLot_11 : decode cX2_tellLot 11 = .ok (.iconst 2, 1) := by decide +kernel
theorem dX2_tellLot_12 : decode cX2_tellLot 12 = .ok (.ireturn, 1) := by decide +kernel
theorem dX2_tellLot_13 : decode cX2_tellLot 13 = .ok (.aload_n 0, 1) := by decide +kernel
theorem dX2_tellLot_14 : decode cX2_tellLot 14 = .ok (.getfield 9, 3) := by decide +kernel
theorem dX2_tellLot_17 : decode cX2_tellLot 17 = .ok (.iconst 1, 1) := by decide +kernel
theorem dX2_tellLot_18 : decode cX2_tellLot 18 = .ok (.if_icmp .eq 5, 3) := by decide +kernel
theorem dX2_tellLot_21 : decode cX2_tellLot 21 = .ok (.iconst 4, 1) := by decide +kernel
theorem dX2_tellLot_22 : decode cX2_tellLot 22 = .ok (.ireturn, 1) := by decide +kernel
theorem dX2_tellLot_23 : decode cX2_tellLot 23 = .ok (.iload_n 1, 1) := by decide +kernel
theorem dX2_tellLot_24 : decode cX2_tellLot 24 = .ok (.ifCond .ge 6, 3) := by decide +kernel
theorem dX2_tellLot_27 : decode cX2_tellLot 27 = .ok (.bipush 7, 2) := by decide +kernel
theorem dX2_tellLot_29 : decode cX2_tellLot 29 = .ok (.ireturn, 1) := by decide +kernel
theorem dX2_tellLot_30 : decode cX2_tellLot 30 = .ok (.aload_n 0, 1) := by decide +kernel
theorem dX2_tellLot_31 : decode cX2_tellLot 31 = .ok (.getfield 42, 3) := by decide +kernel
theorem dX2_tellLot_34 : decode cX2_tellLot 34 = .ok (.getfield 116, 3) := by decide +kernel
theorem dX2_tellLot_37 : decode cX2_tellLot 37 = .ok (.bipush 60, 2) := by decide +kernel
theorem dX2_tellLot_39 : decode cX2_tellLot 39 = .ok (.if_icmp .lt 6, 3) := by decide +kernel
theorem dX2_tellLot_42 : decode cX2_tellLot 42 = .ok (.bipush 9, 2) := by decide +kernel
theorem dX2_tellLot_44 : decode cX2_tellLot 44 = .ok (.ireturn, 1) := by decide +kernel
theorem dX2_tellLot_45 : decode cX2_tellLot 45 = .ok (.aload_n 0, 1) := by decide +kernel
theorem dX2_tellLot_46 : decode cX2_tellLot 46 = .ok (.getfield 26, 3) := by decide +kernel
theorem dX2_tellLot_49 : decode cX2_tellLot 49 = .ok (.aload_n 0, 1) := by decide +kernel
theorem dX2_tellLot_50 : decode cX2_tellLot 50 = .ok (.getfield 42, 3) := by decide +kernel
theorem dX2_tellLot_53 : decode cX2_tellLot 53 = .ok (.getfield 116, 3) := by decide +kernel
theorem dX2_tellLot_56 : decode cX2_tellLot 56 = .ok (.iload_n 1, 1) := by decide +kernel
theorem dX2_tellLot_57 : decode cX2_tellLot 57 = .ok (.iastore, 1) := by decide +kernel
theorem dX2_tellLot_58 : decode cX2_tellLot 58 = .ok (.aload_n 0, 1) := by decide +kernel
theorem dX2_tellLot_59 : decode cX2_tellLot 59 = .ok (.getfield 42, 3) := by decide +kernel
theorem dX2_tellLot_62 : decode cX2_tellLot 62 = .ok (.dup, 1) := by decide +kernel
theorem dX2_tellLot_63 : decode cX2_tellLot 63 = .ok (.getfield 116, 3) := by decide +kernel
theorem dX2_tellLot_66 : decode cX2_tellLot 66 = .ok (.iconst 1, 1) := by decide +kernel
theorem dX2_tellLot_67 : decode cX2_tellLot 67 = .ok (.iadd, 1) := by decide +kernel
theorem dX2_tellLot_68 : decode cX2_tellLot 68 = .ok (.putfield 116, 3) := by decide +kernel
theorem dX2_tellLot_71 : decode cX2_tellLot 71 = .ok (.iconst 0, 1) := by decide +kernel
theorem dX2_tellLot_72 : decode cX2_tellLot 72 = .ok (.ireturn, 1) := by decide +kernel
theorem dX2_begin_0 : decode cX2_begin 0 = .ok (.aload_n 0, 1) := by decide +kernel
theorem dX2_begin_1 : decode cX2_begin 1 = .ok (.getfield 42, 3) := by decide +kernel
theorem dX2_begin_4 : decode cX2_begin 4 = .ok (.getfield 85, 3) := by decide +kernel
theorem dX2_begin_7 : decode cX2_begin 7 = .ok (.ifCond .eq 5, 3) := by decide +kernel
theorem dX2_begin_10 : decode cX2_begin 10 = .ok (.iconst 2, 1) := by decide +kernel
theorem dX2_begin_11 : decode cX2_begin 11 = .ok (.ireturn, 1) := by decide +kernel
theorem dX2_begin_12 : decode cX2_begin 12 = .ok (.aload_n 0, 1) := by decide +kernel
theorem dX2_begin_13 : decode cX2_begin 13 = .ok (.getfield 42, 3) := by decide +kernel
theorem dX2_begin_16 : decode cX2_begin 16 = .ok (.invokevirtual 119, 3) := by decide +kernel
theorem dX2_begin_19 : decode cX2_begin 19 = .ok (.istore_n 1, 1) := by decide +kernel
theorem dX2_begin_20 : decode cX2_begin 20 = .ok (.iload_n 1, 1) := by decide +kernel
theorem dX2_begin_21 : decode cX2_begin 21 = .ok (.ifCond .ne 5, 3) := by decide +kernel
theorem dX2_begin_24 : decode cX2_begin 24 = .ok (.iconst 3, 1) := by decide +kernel
theorem dX2_begin_25 : decode cX2_begin 25 = .ok (.ireturn, 1) := by decide +kernel
theorem dX2_begin_26 : decode cX2_begin 26 = .ok (.aload_n 0, 1) := by decide +kernel
theorem dX2_begin_27 : decode cX2_begin 27 = .ok (.getfield 42, 3) := by decide +kernel
theorem dX2_begin_30 : decode cX2_begin 30 = .ok (.invokevirtual 123, 3) := by decide +kernel
theorem dX2_begin_33 : decode cX2_begin 33 = .ok (.aload_n 0, 1) := by decide +kernel
theorem dX2_begin_34 : decode cX2_begin 34 = .ok (.getfield 42, 3) := by decide +kernel
theorem dX2_begin_37 : decode cX2_begin 37 = .ok (.getfield 126, 3) := by decide +kernel
theorem dX2_begin_40 : decode cX2_begin 40 = .ok (.astore_n 2, 1) := by decide +kernel
theorem dX2_begin_41 : decode cX2_begin 41 = .ok (.aload_n 2, 1) := by decide +kernel
theorem dX2_begin_42 : decode cX2_begin 42 = .ok (.arraylength, 1) := by decide +kernel
theorem dX2_begin_43 : decode cX2_begin 43 = .ok (.istore_n 3, 1) := by decide +kernel
theorem dX2_begin_44 : decode cX2_begin 44 = .ok (.iconst 0, 1) := by decide +kernel
theorem dX2_begin_45 : decode cX2_begin 45 = .ok (.istore 4, 2) := by decide +kernel
theorem dX2_begin_47 : decode cX2_begin 47 = .ok (.iload 4, 2) := by decide +kernel
theorem dX2_begin_49 : decode cX2_begin 49 = .ok (.iload_n 3, 1) := by decide +kernel
theorem dX2_begin_50 : decode cX2_begin 50 = .ok (.if_icmp .ge 25, 3) := by decide +kernel
theorem dX2_begin_53 : decode cX2_begin 53 = .ok (.aload_n 2, 1) := by decide +kernel
theorem dX2_begin_54 : decode cX2_begin 54 = .ok (.iload 4, 2) := by decide +kernel
theorem dX2_begin_56 : decode cX2_begin 56 = .ok (.aaload, 1) := by decide +kernel
theorem dX2_begin_57 : decode cX2_begin 57 = .ok (.astore 5, 2) := by decide +kernel
theorem dX2_begin_59 : decode cX2_begin 59 = .ok (.aload 5, 2) := by decide +kernel
theorem dX2_begin_61 : decode cX2_begin 61 = .ok (.aload 5, 2) := by decide +kernel
theorem dX2_begin_63 : decode cX2_begin 63 = .ok (.invokevirtual 130, 3) := by decide +kernel
theorem dX2_begin_66 : decode cX2_begin 66 = .ok (.putfield 134, 3) := by decide +kernel
theorem dX2_begin_69 : decode cX2_begin 69 = .ok (.iinc 4 1, 3) := by decide +kernel
theorem dX2_begin_72 : decode cX2_begin 72 = .ok (.goto (-25), 3) := by decide +kernel
theorem dX2_begin_75 : decode cX2_begin 75 = .ok (.aload_n 0, 1) := by decide +kernel
theorem dX2_begin_76 : decode cX2_begin 76 = .ok (.getfield 42, 3) := by decide +kernel
theorem dX2_begin_79 : decode cX2_begin 79 = .ok (.iload_n 1, 1) := by decide +kernel
theorem dX2_begin_80 : decode cX2_begin 80 = .ok (.putfield 82, 3) := by decide +kernel
theorem dX2_begin_83 : decode cX2_begin 83 = .ok (.aload_n 0, 1) := by decide +kernel
theorem dX2_begin_84 : decode cX2_begin 84 = .ok (.getfield 42, 3) := by decide +kernel
theorem dX2_begin_87 : decode cX2_begin 87 = .ok (.iconst 1, 1) := by decide +kernel
theorem dX2_begin_88 : decode cX2_begin 88 = .ok (.putfield 85, 3) := by decide +kernel
theorem dX2_begin_91 : decode cX2_begin 91 = .ok (.iconst 0, 1) := by decide +kernel
theorem dX2_begin_92 : decode cX2_begin 92 = .ok (.ireturn, 1) := by decide +kernel
theorem dX2_addDeposit_0 : decode cX2_addDeposit 0 = .ok (.aload_n 0, 1) := by decide +kernel
theorem dX2_addDeposit_1 : decode cX2_addDeposit 1 = .ok (.getfield 42, 3) := by decide +kernel
theorem dX2_addDeposit_4 : decode cX2_addDeposit 4 = .ok (.getfield 85, 3) := by decide +kernel
theorem dX2_addDeposit_7 : decode cX2_addDeposit 7 = .ok (.iconst 1, 1) := by decide +kernel
theorem dX2_addDeposit_8 : decode cX2_addDeposit 8 = .ok (.if_icmp .eq 5, 3) := by decide +kernel
theorem dX2_addDeposit_11 : decode cX2_addDeposit 11 = .ok (.iconst 2, 1) := by decide +kernel
theorem dX2_addDeposit_12 : decode cX2_addDeposit 12 = .ok (.ireturn, 1) := by decide +kernel
theorem dX2_addDeposit_13 : decode cX2_addDeposit 13 = .ok (.aload_n 0, 1) := by decide +kernel
theorem dX2_addDeposit_14 : decode cX2_addDeposit 14 = .ok (.getfield 42, 3) := by decide +kernel
theorem dX2_addDeposit_17 : decode cX2_addDeposit 17 = .ok (.iload_n 1, 1) := by decide +kernel
theorem dX2_addDeposit_18 : decode cX2_addDeposit 18 = .ok (.invokevirtual 138, 3) := by decide +kernel
theorem dX2_addDeposit_21 : decode cX2_addDeposit 21 = .ok (.astore_n 3, 1) := by decide +kernel
theorem dX2_addDeposit_22 : decode cX2_addDeposit 22 = .ok (.aload_n 3, 1) := by decide +kernel
theorem dX2_addDeposit_23 : decode cX2_addDeposit 23 = .ok (.ifnonnull 5, 3) := by decide +kernel
theorem dX2_addDeposit_26 : decode cX2_addDeposit 26 = .ok (.iconst 3, 1) := by decide +kernel
theorem dX2_addDeposit_27 : decode cX2_addDeposit 27 = .ok (.ireturn, 1) := by decide +kernel
theorem dX2_addDeposit_28 : decode cX2_addDeposit 28 = .ok (.aload_n 3, 1) := by decide +kernel
theorem dX2_addDeposit_29 : decode cX2_addDeposit 29 = .ok (.getfield 141, 3) := by decide +kernel
theorem dX2_addDeposit_32 : decode cX2_addDeposit 32 = .ok (.ifCond .eq 6, 3) := by decide +kernel
theorem dX2_addDeposit_35 : decode cX2_addDeposit 35 = .ok (.bipush 10, 2) := by decide +kernel
theorem dX2_addDeposit_37 : decode cX2_addDeposit 37 = .ok (.ireturn, 1) := by decide +kernel
theorem dX2_addDeposit_38 : decode cX2_addDeposit 38 = .ok (.aload_n 3, 1) := by decide +kernel
theorem dX2_addDeposit_39 : decode cX2_addDeposit 39 = .ok (.getfield 98, 3) := by decide +kernel
theorem dX2_addDeposit_42 : decode cX2_addDeposit 42 = .ok (.iconst 4, 1) := by decide +kernel
theorem dX2_addDeposit_43 : decode cX2_addDeposit 43 = .ok (.if_icmp .eq 5, 3) := by decide +kernel
theorem dX2_addDeposit_46 : decode cX2_addDeposit 46 = .ok (.iconst 4, 1) := by decide +kernel
theorem dX2_addDeposit_47 : decode cX2_addDeposit 47 = .ok (.ireturn, 1) := by decide +kernel
theorem dX2_addDeposit_48 : decode cX2_addDeposit 48 = .ok (.iload_n 2, 1) := by decide +kernel
theorem dX2_addDeposit_49 : decode cX2_addDeposit 49 = .ok (.i2l, 1) := by decide +kernel
theorem dX2_addDeposit_50 : decode cX2_addDeposit 50 = .ok (.lconst 1, 1) := by decide +kernel
theorem dX2_addDeposit_51 : decode cX2_addDeposit 51 = .ok (.ldc2_w 143, 3) := by decide +kernel
theorem dX2_addDeposit_54 : decode cX2_addDeposit 54 = .ok (.invokestatic 94, 3) := by decide +kernel
theorem dX2_addDeposit_57 : decode cX2_addDeposit 57 = .ok (.ifCond .ne 6, 3) := by decide +kernel
theorem dX2_addDeposit_60 : decode cX2_addDeposit 60 = .ok (.bipush 7, 2) := by decide +kernel
theorem dX2_addDeposit_62 : decode cX2_addDeposit 62 = .ok (.ireturn, 1) := by decide +kernel
theorem dX2_addDeposit_63 : decode cX2_addDeposit 63 = .ok (.aload_n 3, 1) := by decide +kernel
theorem dX2_addDeposit_64 : decode cX2_addDeposit 64 = .ok (.dup, 1) := by decide +kernel
theorem dX2_addDeposit_65 : decode cX2_addDeposit 65 = .ok (.getfield 145, 3) := by decide +kernel
theorem dX2_addDeposit_68 : decode cX2_addDeposit 68 = .ok (.iload_n 2, 1) := by decide +kernel
theorem dX2_addDeposit_69 : decode cX2_addDeposit 69 = .ok (.i2l, 1) := by decide +kernel
theorem dX2_addDeposit_70 : decode cX2_addDeposit 70 = .ok (.ladd, 1) := by decide +kernel
theorem dX2_addDeposit_71 : decode cX2_addDeposit 71 = .ok (.putfield 145, 3) := by decide +kernel
theorem dX2_addDeposit_74 : decode cX2_addDeposit 74 = .ok (.iconst 0, 1) := by decide +kernel
theorem dX2_addDeposit_75 : decode cX2_addDeposit 75 = .ok (.ireturn, 1) := by decide +kernel
theorem dX2_layRow_0 : decode cX2_layRow 0 = .ok (.aload_n 0, 1) := by decide +kernel
theorem dX2_layRow_1 : decode cX2_layRow 1 = .ok (.getfield 42, 3) := by decide +kernel
theorem dX2_layRow_4 : decode cX2_layRow 4 = .ok (.getfield 85, 3) := by decide +kernel
theorem dX2_layRow_7 : decode cX2_layRow 7 = .ok (.iconst 1, 1) := by decide +kernel
theorem dX2_layRow_8 : decode cX2_layRow 8 = .ok (.if_icmp .eq 5, 3) := by decide +kernel
theorem dX2_layRow_11 : decode cX2_layRow 11 = .ok (.iconst 2, 1) := by decide +kernel
theorem dX2_layRow_12 : decode cX2_layRow 12 = .ok (.ireturn, 1) := by decide +kernel
theorem dX2_layRow_13 : decode cX2_layRow 13 = .ok (.aload_n 0, 1) := by decide +kernel
theorem dX2_layRow_14 : decode cX2_layRow 14 = .ok (.getfield 42, 3) := by decide +kernel
theorem dX2_layRow_17 : decode cX2_layRow 17 = .ok (.invokevirtual 148, 3) := by decide +kernel
theorem dX2_layRow_20 : decode cX2_layRow 20 = .ok (.ifCond .ne 6, 3) := by decide +kernel
theorem dX2_layRow_23 : decode cX2_layRow 23 = .ok (.bipush 8, 2) := by decide +kernel
theorem dX2_layRow_25 : decode cX2_layRow 25 = .ok (.ireturn, 1) := by decide +kernel
theorem dX2_layRow_26 : decode cX2_layRow 26 = .ok (.iload_n 1, 1) := by decide +kernel
theorem dX2_layRow_27 : decode cX2_layRow 27 = .ok (.i2l, 1) := by decide +kernel
theorem dX2_layRow_28 : decode cX2_layRow 28 = .ok (.lconst 0, 1) := by decide +kernel
theorem dX2_layRow_29 : decode cX2_layRow 29 = .ok (.ldc2_w 151, 3) := by decide +kernel
theorem dX2_layRow_32 : decode cX2_layRow 32 = .ok (.invokestatic 94, 3) := by decide +kernel
theorem dX2_layRow_35 : decode cX2_layRow 35 = .ok (.ifCond .ne 6, 3) := by decide +kernel
theorem dX2_layRow_38 : decode cX2_layRow 38 = .ok (.bipush 7, 2) := by decide +kernel
theorem dX2_layRow_40 : decode cX2_layRow 40 = .ok (.ireturn, 1) := by decide +kernel
theorem dX2_layRow_41 : decode cX2_layRow 41 = .ok (.aload_n 0, 1) := by decide +kernel
theorem dX2_layRow_42 : decode cX2_layRow 42 = .ok (.getfield 42, 3) := by decide +kernel
theorem dX2_layRow_45 : decode cX2_layRow 45 = .ok (.iload_n 1, 1) := by decide +kernel
theorem dX2_layRow_46 : decode cX2_layRow 46 = .ok (.invokevirtual 153, 3) := by decide +kernel
theorem dX2_layRow_49 : decode cX2_layRow 49 = .ok (.iconst 0, 1) := by decide +kernel
theorem dX2_layRow_50 : decode cX2_layRow 50 = .ok (.ireturn, 1) := by decide +kernel
theorem dX2_tearRow_0 : decode cX2_tearRow 0 = .ok (.aload_n 0, 1) := by decide +kernel
theorem dX2_tearRow_1 : decode cX2_tearRow 1 = .ok (.getfield 42, 3) := by decide +kernel
theorem dX2_tearRow_4 : decode cX2_tearRow 4 = .ok (.getfield 85, 3) := by decide +kernel
theorem dX2_tearRow_7 : decode cX2_tearRow 7 = .ok (.iconst 1, 1) := by decide +kernel
theorem dX2_tearRow_8 : decode cX2_tearRow 8 = .ok (.if_icmp .eq 5, 3) := by decide +kernel
theorem dX2_tearRow_11 : decode cX2_tearRow 11 = .ok (.iconst 2, 1) := by decide +kernel
theorem dX2_tearRow_12 : decode cX2_tearRow 12 = .ok (.ireturn, 1) := by decide +kernel
theorem dX2_tearRow_13 : decode cX2_tearRow 13 = .ok (.aload_n 0, 1) := by decide +kernel
theorem dX2_tearRow_14 : decode cX2_tearRow 14 = .ok (.getfield 42, 3) := by decide +kernel
theorem dX2_tearRow_17 : decode cX2_tearRow 17 = .ok (.getfield 157, 3) := by decide +kernel
theorem dX2_tearRow_20 : decode cX2_tearRow 20 = .ok (.iconst (-1), 1) := by decide +kernel
theorem dX2_tearRow_21 : decode cX2_tearRow 21 = .ok (.if_icmp .ne 5, 3) := by decide +kernel
theorem dX2_tearRow_24 : decode cX2_tearRow 24 = .ok (.iconst 5, 1) := by decide +kernel
theorem dX2_tearRow_25 : decode cX2_tearRow 25 = .ok (.ireturn, 1) := by decide +kernel
theorem dX2_tearRow_26 : decode cX2_tearRow 26 = .ok (.aload_n 0, 1) := by decide +kernel
theorem dX2_tearRow_27 : decode cX2_tearRow 27 = .ok (.getfield 42, 3) := by decide +kernel
theorem dX2_tearRow_30 : decode cX2_tearRow 30 = .ok (.iconst (-1), 1) := by decide +kernel
theorem dX2_tearRow_31 : decode cX2_tearRow 31 = .ok (.invokevirtual 153, 3) := by decide +kernel
theorem dX2_tearRow_34 : decode cX2_tearRow 34 = .ok (.iconst 0, 1) := by decide +kernel
theorem dX2_tearRow_35 : decode cX2_tearRow 35 = .ok (.ireturn, 1) := by decide +kernel
theorem dX2_payIn_0 : decode cX2_payIn 0 = .ok (.aload_n 0, 1) := by decide +kernel
theorem dX2_payIn_1 : decode cX2_payIn 1 = .ok (.getfield 42, 3) := by decide +kernel
theorem dX2_payIn_4 : decode cX2_payIn 4 = .ok (.getfield 85, 3) := by decide +kernel
theorem dX2_payIn_7 : decode cX2_payIn 7 = .ok (.iconst 1, 1) := by decide +kernel
theorem dX2_payIn_8 : decode cX2_payIn 8 = .ok (.if_icmp .eq 5, 3) := by decide +kernel
theorem dX2_payIn_11 : decode cX2_payIn 11 = .ok (.iconst 2, 1) := by decide +kernel
theorem dX2_payIn_12 : decode cX2_payIn 12 = .ok (.ireturn, 1) := by decide +kernel
theorem dX2_payIn_13 : decode cX2_payIn 13 = .ok (.aload_n 0, 1) := by decide +kernel
theorem dX2_payIn_14 : decode cX2_payIn 14 = .ok (.getfield 42, 3) := by decide +kernel
theorem dX2_payIn_17 : decode cX2_payIn 17 = .ok (.iload_n 1, 1) := by decide +kernel
theorem dX2_payIn_18 : decode cX2_payIn 18 = .ok (.invokevirtual 138, 3) := by decide +kernel
theorem dX2_payIn_21 : decode cX2_payIn 21 = .ok (.astore_n 3, 1) := by decide +kernel
theorem dX2_payIn_22 : decode cX2_payIn 22 = .ok (.aload_n 3, 1) := by decide +kernel
theorem dX2_payIn_23 : decode cX2_payIn 23 = .ok (.ifnonnull 5, 3) := by decide +kernel
theorem dX2_payIn_26 : decode cX2_payIn 26 = .ok (.iconst 3, 1) := by decide +kernel
theorem dX2_payIn_27 : decode cX2_payIn 27 = .ok (.ireturn, 1) := by decide +kernel
theorem dX2_payIn_28 : decode cX2_payIn 28 = .ok (.aload_n 3, 1) := by decide +kernel
theorem dX2_payIn_29 : decode cX2_payIn 29 = .ok (.getfield 141, 3) := by decide +kernel
theorem dX2_payIn_32 : decode cX2_payIn 32 = .ok (.ifCond .eq 6, 3) := by decide +kernel
theorem dX2_payIn_35 : decode cX2_payIn 35 = .ok (.bipush 10, 2) := by decide +kernel
theorem dX2_payIn_37 : decode cX2_payIn 37 = .ok (.ireturn, 1) := by decide +kernel
theorem dX2_payIn_38 : decode cX2_payIn 38 = .ok (.iload_n 2, 1) := by decide +kernel
theorem dX2_payIn_39 : decode cX2_payIn 39 = .ok (.iconst 1, 1) := by decide +kernel
theorem dX2_payIn_40 : decode cX2_payIn 40 = .ok (.if_icmp .ne 13, 3) := by decide +kernel
theorem dX2_payIn_43 : decode cX2_payIn 43 = .ok (.aload_n 3, 1) := by decide +kernel
theorem dX2_payIn_44 : decode cX2_payIn 44 = .ok (.getfield 98, 3) := by decide +kernel
theorem dX2_payIn_47 : decode cX2_payIn 47 = .ok (.iconst 3, 1) := by decide +kernel
theorem dX2_payIn_48 : decode cX2_payIn 48 = .ok (.if_icmp .eq 5, 3) := by decide +kernel
theorem dX2_payIn_51 : decode cX2_payIn 51 = .ok (.iconst 4, 1) := by decide +kernel
theorem dX2_payIn_52 : decode cX2_payIn 52 = .ok (.ireturn, 1) := by decide +kernel
theorem dX2_payIn_53 : decode cX2_payIn 53 = .ok (.iload_n 2, 1) := by decide +kernel
theorem dX2_payIn_54 : decode cX2_payIn 54 = .ok (.i2l, 1) := by decide +kernel
theorem dX2_payIn_55 : decode cX2_payIn 55 = .ok (.lconst 0, 1) := by decide +kernel
theorem dX2_payIn_56 : decode cX2_payIn 56 = .ok (.lconst 1, 1) := by decide +kernel
theorem dX2_payIn_57 : decode cX2_payIn 57 = .ok (.invokestatic 94, 3) := by decide +kernel
theorem dX2_payIn_60 : decode cX2_payIn 60 = .ok (.ifCond .ne 6, 3) := by decide +kernel
theorem dX2_payIn_63 : decode cX2_payIn 63 = .ok (.bipush 7, 2) := by decide +kernel
theorem dX2_payIn_65 : decode cX2_payIn 65 = .ok (.ireturn, 1) := by decide +kernel
theorem dX2_payIn_66 : decode cX2_payIn 66 = .ok (.aload_n 0, 1) := by decide +kernel
theorem dX2_payIn_67 : decode cX2_payIn 67 = .ok (.getfield 42, 3) := by decide +kernel
theorem dX2_payIn_70 : decode cX2_payIn 70 = .ok (.getfield 157, 3) := by decide +kernel
theorem dX2_payIn_73 : decode cX2_payIn 73 = .ok (.iconst (-1), 1) := by decide +kernel
theorem dX2_payIn_74 : decode cX2_payIn 74 = .ok (.if_icmp .ne 5, 3) := by decide +kernel
theorem dX2_payIn_77 : decode cX2_payIn 77 = .ok (.iconst 5, 1) := by decide +kernel
theorem dX2_payIn_78 : decode cX2_payIn 78 = .ok (.ireturn, 1) := by decide +kernel
theorem dX2_payIn_79 : decode cX2_payIn 79 = .ok (.iload_n 1, 1) := by decide +kernel
theorem dX2_payIn_80 : decode cX2_payIn 80 = .ok (.aload_n 0, 1) := by decide +kernel
theorem dX2_payIn_81 : decode cX2_payIn 81 = .ok (.getfield 42, 3) := by decide +kernel
theorem dX2_payIn_84 : decode cX2_payIn 84 = .ok (.getfield 157, 3) := by decide +kernel
theorem dX2_payIn_87 : decode cX2_payIn 87 = .ok (.if_icmp .lt 6, 3) := by decide +kernel
theorem dX2_payIn_90 : decode cX2_payIn 90 = .ok (.bipush 6, 2) := by decide +kernel
theorem dX2_payIn_92 : decode cX2_payIn 92 = .ok (.ireturn, 1) := by decide +kernel
theorem dX2_payIn_93 : decode cX2_payIn 93 = .ok (.iload_n 2, 1) := by decide +kernel
theorem dX2_payIn_94 : decode cX2_payIn 94 = .ok (.ifCond .ne 11, 3) := by decide +kernel
theorem dX2_payIn_97 : decode cX2_payIn 97 = .ok (.aload_n 0, 1) := by decide +kernel
theorem dX2_payIn_98 : decode cX2_payIn 98 = .ok (.aload_n 3, 1) := by decide +kernel
theorem dX2_payIn_99 : decode cX2_payIn 99 = .ok (.invokevirtual 160, 3) := by decide +kernel
theorem dX2_payIn_102 : decode cX2_payIn 102 = .ok (.goto 8, 3) := by decide +kernel
theorem dX2_payIn_105 : decode cX2_payIn 105 = .ok (.aload_n 0, 1) := by decide +kernel
theorem dX2_payIn_106 : decode cX2_payIn 106 = .ok (.aload_n 3, 1) := by decide +kernel
theorem dX2_payIn_107 : decode cX2_payIn 107 = .ok (.invokevirtual 164, 3) := by decide +kernel
theorem dX2_payIn_110 : decode cX2_payIn 110 = .ok (.ireturn, 1) := by decide +kernel
theorem dX2_payFirst_0 : decode cX2_payFirst 0 = .ok (.aload_n 1, 1) := by decide +kernel
theorem dX2_payFirst_1 : decode cX2_payFirst 1 = .ok (.getfield 167, 3) := by decide +kernel
theorem dX2_payFirst_4 : decode cX2_payFirst 4 = .ok (.ifCond .eq 6, 3) := by decide +kernel
theorem dX2_payFirst_7 : decode cX2_payFirst 7 = .ok (.bipush 8, 2) := by decide +kernel
theorem dX2_payFirst_9 : decode cX2_payFirst 9 = .ok (.ireturn, 1) := by decide +kernel
theorem dX2_payFirst_10 : decode cX2_payFirst 10 = .ok (.aload_n 1, 1) := by decide +kernel
theorem dX2_payFirst_11 : decode cX2_payFirst 11 = .ok (.iconst 1, 1) := by decide +kernel
theorem dX2_payFirst_12 : decode cX2_payFirst 12 = .ok (.putfield 167, 3) := by decide +kernel
theorem dX2_payFirst_15 : decode cX2_payFirst 15 = .ok (.aload_n 0, 1) := by decide +kernel
theorem dX2_payFirst_16 : decode cX2_payFirst 16 = .ok (.aload_n 1, 1) := by decide +kernel
theorem dX2_payFirst_17 : decode cX2_payFirst 17 = .ok (.aload_n 1, 1) := by decide +kernel
theorem dX2_payFirst_18 : decode cX2_payFirst 18 = .ok (.getfield 98, 3) := by decide +kernel
theorem dX2_payFirst_21 : decode cX2_payFirst 21 = .ok (.iconst 3, 1) := by decide +kernel
theorem dX2_payFirst_22 : decode cX2_payFirst 22 = .ok (.if_icmp .ne 19, 3) := by decide +kernel
theorem dX2_payFirst_25 : decode cX2_payFirst 25 = .ok (.aload_n 0, 1) := by decide +kernel
theorem dX2_payFirst_26 : decode cX2_payFirst 26 = .ok (.getfield 15, 3) := by decide +kernel
theorem dX2_payFirst_29 : decode cX2_payFirst 29 = .ok (.aload_n 0, 1) := by decide +kernel
theorem dX2_payFirst_30 : decode cX2_payFirst 30 = .ok (.getfield 15, 3) := by decide +kernel
theorem dX2_payFirst_33 : decode cX2_payFirst 33 = .ok (.ldc2_w 170, 3) := by decide +kernel
theorem dX2_payFirst_36 : decode cX2_payFirst 36 = .ok (.ldiv, 1) := by decide +kernel
theorem dX2_payFirst_37 : decode cX2_payFirst 37 = .ok (.lsub, 1) := by decide +kernel
theorem dX2_payFirst_38 : decode cX2_payFirst 38 = .ok (.goto 7, 3) := by decide +kernel
theorem dX2_payFirst_41 : decode cX2_payFirst 41 = .ok (.aload_n 0, 1) := by decide +kernel
theorem dX2_payFirst_42 : decode cX2_payFirst 42 = .ok (.getfield 15, 3) := by decide +kernel
theorem dX2_payFirst_45 : decode cX2_payFirst 45 = .ok (.invokevirtual 172, 3) := by decide +kernel
theorem dX2_payFirst_48 : decode cX2_payFirst 48 = .ok (.iconst 0, 1) := by decide +kernel
theorem dX2_payFirst_49 : decode cX2_payFirst 49 = .ok (.ireturn, 1) := by decide +kernel
theorem dX2_paySecond_0 : decode cX2_paySecond 0 = .ok (.aload_n 1, 1) := by decide +kernel
theorem dX2_paySecond_1 : decode cX2_paySecond 1 = .ok (.getfield 176, 3) := by decide +kernel
theorem dX2_paySecond_4 : decode cX2_paySecond 4 = .ok (.ifCond .eq 6, 3) := by decide +kernel
theorem dX2_paySecond_7 : decode cX2_paySecond 7 = .ok (.bipush 8, 2) := by decide +kernel
theorem dX2_paySecond_9 : decode cX2_paySecond 9 = .ok (.ireturn, 1) := by decide +kernel
theorem dX2_paySecond_10 : decode cX2_paySecond 10 = .ok (.aload_n 1, 1) := by decide +kernel
theorem dX2_paySecond_11 : decode cX2_paySecond 11 = .ok (.iconst 1, 1) := by decide +kernel
theorem dX2_paySecond_12 : decode cX2_paySecond 12 = .ok (.putfield 176, 3) := by decide +kernel
theorem dX2_paySecond_15 : decode cX2_paySecond 15 = .ok (.aload_n 0, 1) := by decide +kernel
theorem dX2_paySecond_16 : decode cX2_paySecond 16 = .ok (.aload_n 1, 1) := by decide +kernel
theorem dX2_paySecond_17 : decode cX2_paySecond 17 = .ok (.aload_n 0, 1) := by decide +kernel
theorem dX2_paySecond_18 : decode cX2_paySecond 18 = .ok (.getfield 15, 3) := by decide +kernel
theorem dX2_paySecond_21 : decode cX2_paySecond 21 = .ok (.ldc2_w 170, 3) := by decide +kernel
theorem dX2_paySecond_24 : decode cX2_paySecond 24 = .ok (.ldiv, 1) := by decide +kernel
theorem dX2_paySecond_25 : decode cX2_paySecond 25 = .ok (.invokevirtual 172, 3) := by decide +kernel
theorem dX2_paySecond_28 : decode cX2_paySecond 28 = .ok (.iconst 0, 1) := by decide +kernel
theorem dX2_paySecond_29 : decode cX2_paySecond 29 = .ok (.ireturn, 1) := by decide +kernel
theorem dX2_putIntoCell_0 : decode cX2_putIntoCell 0 = .ok (.aload_n 1, 1) := by decide +kernel
theorem dX2_putIntoCell_1 : decode cX2_putIntoCell 1 = .ok (.dup, 1) := by decide +kernel
theorem dX2_putIntoCell_2 : decode cX2_putIntoCell 2 = .ok (.getfield 179, 3) := by decide +kernel
theorem dX2_putIntoCell_5 : decode cX2_putIntoCell 5 = .ok (.lload_n 2, 1) := by decide +kernel
theorem dX2_putIntoCell_6 : decode cX2_putIntoCell 6 = .ok (.l2i, 1) := by decide +kernel
theorem dX2_putIntoCell_7 : decode cX2_putIntoCell 7 = .ok (.iadd, 1) := by decide +kernel
theorem dX2_putIntoCell_8 : decode cX2_putIntoCell 8 = .ok (.putfield 179, 3) := by decide +kernel
theorem dX2_putIntoCell_11 : decode cX2_putIntoCell 11 = .ok (.aload_n 1, 1) := by decide +kernel
theorem dX2_putIntoCell_12 : decode cX2_putIntoCell 12 = .ok (.dup, 1) := by decide +kernel
theorem dX2_putIntoCell_13 : decode cX2_putIntoCell 13 = .ok (.getfield 182, 3) := by decide +kernel
theorem dX2_putIntoCell_16 : decode cX2_putIntoCell 16 = .ok (.lload_n 2, 1) := by decide +kernel
theorem dX2_putIntoCell_17 : decode cX2_putIntoCell 17 = .ok (.ladd, 1) := by decide +kernel
theorem dX2_putIntoCell_18 : decode cX2_putIntoCell 18 = .ok (.putfield 182, 3) := by decide +kernel
theorem dX2_putIntoCell_21 : decode cX2_putIntoCell 21 = .ok (.return_, 1) := by decide +kernel
theorem dX2_payDebt_0 : decode cX2_payDebt 0 = .ok (.aload_n 0, 1) := by decide +kernel
theorem dX2_payDebt_1 : decode cX2_payDebt 1 = .ok (.getfield 42, 3) := by decide +kernel
theorem dX2_payDebt_4 : decode cX2_payDebt 4 = .ok (.getfield 85, 3) := by decide +kernel
theorem dX2_payDebt_7 : decode cX2_payDebt 7 = .ok (.iconst 1, 1) := by decide +kernel
theorem dX2_payDebt_8 : decode cX2_payDebt 8 = .ok (.if_icmp .eq 5, 3) := by decide +kernel
theorem dX2_payDebt_11 : decode cX2_payDebt 11 = .ok (.iconst 2, 1) := by decide +kernel
theorem dX2_payDebt_12 : decode cX2_payDebt 12 = .ok (.ireturn, 1) := by decide +kernel
theorem dX2_payDebt_13 : decode cX2_payDebt 13 = .ok (.aload_n 0, 1) := by decide +kernel
theorem dX2_payDebt_14 : decode cX2_payDebt 14 = .ok (.getfield 42, 3) := by decide +kernel
theorem dX2_payDebt_17 : decode cX2_payDebt 17 = .ok (.iload_n 1, 1) := by decide +kernel
theorem dX2_payDebt_18 : decode cX2_payDebt 18 = .ok (.invokevirtual 138, 3) := by decide +kernel
theorem dX2_payDebt_21 : decode cX2_payDebt 21 = .ok (.astore_n 2, 1) := by decide +kernel
theorem dX2_payDebt_22 : decode cX2_payDebt 22 = .ok (.aload_n 2, 1) := by decide +kernel
theorem dX2_payDebt_23 : decode cX2_payDebt 23 = .ok (.ifnonnull 5, 3) := by decide +kernel
theorem dX2_payDebt_26 : decode cX2_payDebt 26 = .ok (.iconst 3, 1) := by decide +kernel
theorem dX2_payDebt_27 : decode cX2_payDebt 27 = .ok (.ireturn, 1) := by decide +kernel
theorem dX2_payDebt_28 : decode cX2_payDebt 28 = .ok (.aload_n 2, 1) := by decide +kernel
theorem dX2_payDebt_29 : decode cX2_payDebt 29 = .ok (.getfield 141, 3) := by decide +kernel
theorem dX2_payDebt_32 : decode cX2_payDebt 32 = .ok (.ifCond .eq 6, 3) := by decide +kernel
theorem dX2_payDebt_35 : decode cX2_payDebt 35 = .ok (.bipush 10, 2) := by decide +kernel
theorem dX2_payDebt_37 : decode cX2_payDebt 37 = .ok (.ireturn, 1) := by decide +kernel
theorem dX2_payDebt_38 : decode cX2_payDebt 38 = .ok (.aload_n 2, 1) := by decide +kernel
theorem dX2_payDebt_39 : decode cX2_payDebt 39 = .ok (.getfield 185, 3) := by decide +kernel
theorem dX2_payDebt_42 : decode cX2_payDebt 42 = .ok (.lconst 0, 1) := by decide +kernel
theorem dX2_payDebt_43 : decode cX2_payDebt 43 = .ok (.lcmp, 1) := by decide +kernel
theorem dX2_payDebt_44 : decode cX2_payDebt 44 = .ok (.ifCond .ne 6, 3) := by decide +kernel
theorem dX2_payDebt_47 : decode cX2_payDebt 47 = .ok (.bipush 8, 2) := by decide +kernel
theorem dX2_payDebt_49 : decode cX2_payDebt 49 = .ok (.ireturn, 1) := by decide +kernel
theorem dX2_payDebt_50 : decode cX2_payDebt 50 = .ok (.aload_n 0, 1) := by decide +kernel
theorem dX2_payDebt_51 : decode cX2_payDebt 51 = .ok (.getfield 42, 3) := by decide +kernel
theorem dX2_payDebt_54 : decode cX2_payDebt 54 = .ok (.dup, 1) := by decide +kernel
theorem dX2_payDebt_55 : decode cX2_payDebt 55 = .ok (.getfield 46, 3) := by decide +kernel
theorem dX2_payDebt_58 : decode cX2_payDebt 58 = .ok (.aload_n 2, 1) := by decide +kernel
theorem dX2_payDebt_59 : decode cX2_payDebt 59 = .ok (.getfield 185, 3) := by decide +kernel
theorem dX2_payDebt_62 : decode cX2_payDebt 62 = .ok (.aload_n 0, 1) := by decide +kernel
theorem dX2_payDebt_63 : decode cX2_payDebt 63 = .ok (.getfield 19, 3) := by decide +kernel
theorem dX2_payDebt_66 : decode cX2_payDebt 66 = .ok (.ladd, 1) := by decide +kernel
theorem dX2_payDebt_67 : decode cX2_payDebt 67 = .ok (.ladd, 1) := by decide +kernel
theorem dX2_payDebt_68 : decode cX2_payDebt 68 = .ok (.putfield 46, 3) := by decide +kernel
theorem dX2_payDebt_71 : decode cX2_payDebt 71 = .ok (.aload_n 0, 1) := by decide +kernel
theorem dX2_payDebt_72 : decode cX2_payDebt 72 = .ok (.getfield 42, 3) := by decide +kernel
theorem dX2_payDebt_75 : decode cX2_payDebt 75 = .ok (.dup, 1) := by decide +kernel
theorem dX2_payDebt_76 : decode cX2_payDebt 76 = .ok (.getfield 188, 3) := by decide +kernel
theorem dX2_payDebt_79 : decode cX2_payDebt 79 = .ok (.aload_n 0, 1) := by decide +kernel
theorem dX2_payDebt_80 : decode cX2_payDebt 80 = .ok (.getfield 19, 3) := by decide +kernel
theorem dX2_payDebt_83 : decode cX2_payDebt 83 = .ok (.ladd, 1) := by decide +kernel
theorem dX2_payDebt_84 : decode cX2_payDebt 84 = .ok (.putfield 188, 3) := by decide +kernel
theorem dX2_payDebt_87 : decode cX2_payDebt 87 = .ok (.aload_n 2, 1) := by decide +kernel
theorem dX2_payDebt_88 : decode cX2_payDebt 88 = .ok (.dup, 1) := by decide +kernel
theorem dX2_payDebt_89 : decode cX2_payDebt 89 = .ok (.getfield 182, 3) := by decide +kernel
theorem dX2_payDebt_92 : decode cX2_payDebt 92 = .ok (.aload_n 2, 1) := by decide +kernel
theorem dX2_payDebt_93 : decode cX2_payDebt 93 = .ok (.getfield 185, 3) := by decide +kernel
theorem dX2_payDebt_96 : decode cX2_payDebt 96 = .ok (.ladd, 1) := by decide +kernel
theorem dX2_payDebt_97 : decode cX2_payDebt 97 = .ok (.putfield 182, 3) := by decide +kernel
theorem dX2_payDebt_100 : decode cX2_payDebt 100 = .ok (.aload_n 2, 1) := by decide +kernel
theorem dX2_payDebt_101 : decode cX2_payDebt 101 = .ok (.lconst 0, 1) := by decide +kernel
theorem dX2_payDebt_102 : decode cX2_payDebt 102 = .ok (.putfield 185, 3) := by decide +kernel
theorem dX2_payDebt_105 : decode cX2_payDebt 105 = .ok (.iconst 0, 1) := by decide +kernel
theorem dX2_payDebt_106 : decode cX2_payDebt 106 = .ok (.ireturn, 1) := by decide +kernel
theorem dX2_takeBid_0 : decode cX2_takeBid 0 = .ok (.aload_n 0, 1) := by decide +kernel
theorem dX2_takeBid_1 : decode cX2_takeBid 1 = .ok (.iload_n 1, 1) := by decide +kernel
theorem dX2_takeBid_2 : decode cX2_takeBid 2 = .ok (.iconst 2, 1) := by decide +kernel
theorem dX2_takeBid_3 : decode cX2_takeBid 3 = .ok (.invokevirtual 191, 3) := by decide +kernel
theorem dX2_takeBid_6 : decode cX2_takeBid 6 = .ok (.istore 4, 2) := by decide +kernel
theorem dX2_takeBid_8 : decode cX2_takeBid 8 = .ok (.iload 4, 2) := by decide +kernel
theorem dX2_takeBid_10 : decode cX2_takeBid 10 = .ok (.ifCond .eq 6, 3) := by decide +kernel
theorem dX2_takeBid_13 : decode cX2_takeBid 13 = .ok (.iload 4, 2) := by decide +kernel
theorem dX2_takeBid_15 : decode cX2_takeBid 15 = .ok (.ireturn, 1) := by decide +kernel
theorem dX2_takeBid_16 : decode cX2_takeBid 16 = .ok (.aload_n 0, 1) := by decide +kernel
theorem dX2_takeBid_17 : decode cX2_takeBid 17 = .ok (.getfield 42, 3) := by decide +kernel
theorem dX2_takeBid_20 : decode cX2_takeBid 20 = .ok (.iload_n 1, 1) := by decide +kernel
theorem dX2_takeBid_21 : decode cX2_takeBid 21 = .ok (.invokevirtual 138, 3) := by decide +kernel
theorem dX2_takeBid_24 : decode cX2_takeBid 24 = .ok (.astore 5, 2) := by decide +kernel
theorem dX2_takeBid_26 : decode cX2_takeBid 26 = .ok (.aload 5, 2) := by decide +kernel
theorem dX2_takeBid_28 : decode cX2_takeBid 28 = .ok (.ifnonnull 5, 3) := by decide +kernel
theorem dX2_takeBid_31 : decode cX2_takeBid 31 = .ok (.iconst 3, 1) := by decide +kernel
theorem dX2_takeBid_32 : decode cX2_takeBid 32 = .ok (.ireturn, 1) := by decide +kernel
theorem dX2_takeBid_33 : decode cX2_takeBid 33 = .ok (.lload_n 2, 1) := by decide +kernel
theorem dX2_takeBid_34 : decode cX2_takeBid 34 = .ok (.lconst 0, 1) := by decide +kernel
theorem dX2_takeBid_35 : decode cX2_takeBid 35 = .ok (.aload_n 0, 1) := by decide +kernel
theorem dX2_takeBid_36 : decode cX2_takeBid 36 = .ok (.invokevirtual 195, 3) := by decide +kernel
theorem dX2_takeBid_39 : decode cX2_takeBid 39 = .ok (.invokestatic 94, 3) := by decide +kernel
theorem dX2_takeBid_42 : decode cX2_takeBid 42 = .ok (.ifCond .ne 6, 3) := by decide +kernel
theorem dX2_takeBid_45 : decode cX2_takeBid 45 = .ok (.bipush 7, 2) := by decide +kernel
theorem dX2_takeBid_47 : decode cX2_takeBid 47 = .ok (.ireturn, 1) := by decide +kernel
theorem dX2_takeBid_48 : decode cX2_takeBid 48 = .ok (.aload 5, 2) := by decide +kernel
theorem dX2_takeBid_50 : decode cX2_takeBid 50 = .ok (.lload_n 2, 1) := by decide +kernel
theorem dX2_takeBid_51 : decode cX2_takeBid 51 = .ok (.putfield 199, 3) := by decide +kernel
theorem dX2_takeBid_54 : decode cX2_takeBid 54 = .ok (.iconst 0, 1) := by decide +kernel
theorem dX2_takeBid_55 : decode cX2_takeBid 55 = .ok (.ireturn, 1) := by decide +kernel
theorem dX2_ask_0 : decode cX2_ask 0 = .ok (.aload_n 0, 1) := by decide +kernel
theorem dX2_ask_1 : decode cX2_ask 1 = .ok (.iload_n 1, 1) := by decide +kernel
theorem dX2_ask_2 : decode cX2_ask 2 = .ok (.iconst 3, 1) := by decide +kernel
theorem dX2_ask_3 : decode cX2_ask 3 = .ok (.invokevirtual 191, 3) := by decide +kernel
theorem dX2_ask_6 : decode cX2_ask 6 = .ok (.istore_n 2, 1) := by decide +kernel
theorem dX2_ask_7 : decode cX2_ask 7 = .ok (.iload_n 2, 1) := by decide +kernel
theorem dX2_ask_8 : decode cX2_ask 8 = .ok (.ifCond .eq 5, 3) := by decide +kernel
theorem dX2_ask_11 : decode cX2_ask 11 = .ok (.iload_n 2, 1) := by decide +kernel
theorem dX2_ask_12 : decode cX2_ask 12 = .ok (.ireturn, 1) := by decide +kernel
theorem dX2_ask_13 : decode cX2_ask 13 = .ok (.aload_n 0, 1) := by decide +kernel
theorem dX2_ask_14 : decode cX2_ask 14 = .ok (.getfield 42, 3) := by decide +kernel
theorem dX2_ask_17 : decode cX2_ask 17 = .ok (.invokevirtual 202, 3) := by decide +kernel
theorem dX2_ask_20 : decode cX2_ask 20 = .ok (.aload_n 0, 1) := by decide +kernel
theorem dX2_ask_21 : decode cX2_ask 21 = .ok (.getfield 42, 3) := by decide +kernel
theorem dX2_ask_24 : decode cX2_ask 24 = .ok (.iload_n 1, 1) := by decide +kernel
theorem dX2_ask_25 : decode cX2_ask 25 = .ok (.putfield 205, 3) := by decide +kernel
theorem dX2_ask_28 : decode cX2_ask 28 = .ok (.iconst 0, 1) := by decide +kernel
theorem dX2_ask_29 : decode cX2_ask 29 = .ok (.ireturn, 1) := by decide +kernel
theorem dX2_whyNoWish_0 : decode cX2_whyNoWish 0 = .ok (.aload_n 0, 1) := by decide +kernel
theorem dX2_whyNoWish_1 : decode cX2_whyNoWish 1 = .ok (.getfield 42, 3) := by decide +kernel
theorem dX2_whyNoWish_4 : decode cX2_whyNoWish 4 = .ok (.getfield 85, 3) := by decide +kernel
theorem dX2_whyNoWish_7 : decode cX2_whyNoWish 7 = .ok (.iconst 1, 1) := by decide +kernel
theorem dX2_whyNoWish_8 : decode cX2_whyNoWish 8 = .ok (.if_icmp .eq 5, 3) := by decide +kernel
theorem dX2_whyNoWish_11 : decode cX2_whyNoWish 11 = .ok (.iconst 2, 1) := by decide +kernel
theorem dX2_whyNoWish_12 : decode cX2_whyNoWish 12 = .ok (.ireturn, 1) := by decide +kernel
theorem dX2_whyNoWish_13 : decode cX2_whyNoWish 13 = .ok (.aload_n 0, 1) := by decide +kernel
theorem dX2_whyNoWish_14 : decode cX2_whyNoWish 14 = .ok (.getfield 9, 3) := by decide +kernel
theorem dX2_whyNoWish_17 : decode cX2_whyNoWish 17 = .ok (.iload_n 2, 1) := by decide +kernel
theorem dX2_whyNoWish_18 : decode cX2_whyNoWish 18 = .ok (.if_icmp .eq 5, 3) := by decide +kernel
theorem dX2_whyNoWish_21 : decode cX2_whyNoWish 21 = .ok (.iconst 4, 1) := by decide +kernel
theorem dX2_whyNoWish_22 : decode cX2_whyNoWish 22 = .ok (.ireturn, 1) := by decide +kernel
theorem dX2_whyNoWish_23 : decode cX2_whyNoWish 23 = .ok (.aload_n 0, 1) := by decide +kernel
theorem dX2_whyNoWish_24 : decode cX2_whyNoWish 24 = .ok (.getfield 42, 3) := by decide +kernel
theorem dX2_whyNoWish_27 : decode cX2_whyNoWish 27 = .ok (.iload_n 1, 1) := by decide +kernel
theorem dX2_whyNoWish_28 : decode cX2_whyNoWish 28 = .ok (.invokevirtual 138, 3) := by decide +kernel
theorem dX2_whyNoWish_31 : decode cX2_whyNoWish 31 = .ok (.astore_n 3, 1) := by decide +kernel
theorem dX2_whyNoWish_32 : decode cX2_whyNoWish 32 = .ok (.aload_n 3, 1) := by decide +kernel
theorem dX2_whyNoWish_33 : decode cX2_whyNoWish 33 = .ok (.ifnonnull 5, 3) := by decide +kernel
theorem dX2_whyNoWish_36 : decode cX2_whyNoWish 36 = .ok (.iconst 3, 1) := by decide +kernel
theorem dX2_whyNoWish_37 : decode cX2_whyNoWish 37 = .ok (.ireturn, 1) := by decide +kernel
theorem dX2_whyNoWish_38 : decode cX2_whyNoWish 38 = .ok (.aload_n 3, 1) := by decide +kernel
theorem dX2_whyNoWish_39 : decode cX2_whyNoWish 39 = .ok (.getfield 141, 3) := by decide +kernel
theorem dX2_whyNoWish_42 : decode cX2_whyNoWish 42 = .ok (.ifCond .eq 6, 3) := by decide +kernel
theorem dX2_whyNoWish_45 : decode cX2_whyNoWish 45 = .ok (.bipush 10, 2) := by decide +kernel
theorem dX2_whyNoWish_47 : decode cX2_whyNoWish 47 = .ok (.ireturn, 1) := by decide +kernel
theorem dX2_whyNoWish_48 : decode cX2_whyNoWish 48 = .ok (.aload_n 3, 1) := by decide +kernel
theorem dX2_whyNoWish_49 : decode cX2_whyNoWish 49 = .ok (.getfield 208, 3) := by decide +kernel
theorem dX2_whyNoWish_52 : decode cX2_whyNoWish 52 = .ok (.ifCond .eq 8, 3) := by decide +kernel
theorem dX2_whyNoWish_55 : decode cX2_whyNoWish 55 = .ok (.bipush 8, 2) := by decide +kernel
theorem dX2_whyNoWish_57 : decode cX2_whyNoWish 57 = .ok (.goto 4, 3) := by decide +kernel
theorem dX2_whyNoWish_60 : decode cX2_whyNoWish 60 = .ok (.iconst 0, 1) := by decide +kernel
theorem dX2_whyNoWish_61 : decode cX2_whyNoWish 61 = .ok (.ireturn, 1) := by decide +kernel
theorem dX2_sayYes_0 : decode cX2_sayYes 0 = .ok (.aload_n 0, 1) := by decide +kernel
theorem dX2_sayYes_1 : decode cX2_sayYes 1 = .ok (.getfield 42, 3) := by decide +kernel
theorem dX2_sayYes_4 : decode cX2_sayYes 4 = .ok (.getfield 85, 3) := by decide +kernel
theorem dX2_sayYes_7 : decode cX2_sayYes 7 = .ok (.iconst 1, 1) := by decide +kernel
theorem dX2_sayYes_8 : decode cX2_sayYes 8 = .ok (.if_icmp .eq 5, 3) := by decide +kernel
theorem dX2_sayYes_11 : decode cX2_sayYes 11 = .ok (.iconst 2, 1) := by decide +kernel
theorem dX2_sayYes_12 : decode cX2_sayYes 12 = .ok (.ireturn, 1) := by decide +kernel
theorem dX2_sayYes_13 : decode cX2_sayYes 13 = .ok (.aload_n 0, 1) := by decide +kernel
theorem dX2_sayYes_14 : decode cX2_sayYes 14 = .ok (.getfield 9, 3) := by decide +kernel
theorem dX2_sayYes_17 : decode cX2_sayYes 17 = .ok (.iconst 3, 1) := by decide +kernel
theorem dX2_sayYes_18 : decode cX2_sayYes 18 = .ok (.if_icmp .eq 5, 3) := by decide +kernel
theorem dX2_sayYes_21 : decode cX2_sayYes 21 = .ok (.iconst 4, 1) := by decide +kernel
theorem dX2_sayYes_22 : decode cX2_sayYes 22 = .ok (.ireturn, 1) := by decide +kernel
theorem dX2_sayYes_23 : decode cX2_sayYes 23 = .ok (.aload_n 0, 1) := by decide +kernel
theorem dX2_sayYes_24 : decode cX2_sayYes 24 = .ok (.getfield 42, 3) := by decide +kernel
theorem dX2_sayYes_27 : decode cX2_sayYes 27 = .ok (.iload_n 1, 1) := by decide +kernel
theorem dX2_sayYes_28 : decode cX2_sayYes 28 = .ok (.invokevirtual 138, 3) := by decide +kernel
theorem dX2_sayYes_31 : decode cX2_sayYes 31 = .ok (.astore_n 2, 1) := by decide +kernel
theorem dX2_sayYes_32 : decode cX2_sayYes 32 = .ok (.aload_n 2, 1) := by decide +kernel
theorem dX2_sayYes_33 : decode cX2_sayYes 33 = .ok (.ifnull 14, 3) := by decide +kernel
theorem dX2_sayYes_36 : decode cX2_sayYes 36 = .ok (.aload_n 0, 1) := by decide +kernel
theorem dX2_sayYes_37 : decode cX2_sayYes 37 = .ok (.getfield 42, 3) := by decide +kernel
theorem dX2_sayYes_40 : decode cX2_sayYes 40 = .ok (.getfield 205, 3) := by decide +kernel
theorem dX2_sayYes_43 : decode cX2_sayYes 43 = .ok (.iconst (-1), 1) := by decide +kernel
theorem dX2_sayYes_44 : decode cX2_sayYes 44 = .ok (.if_icmp .ne 5, 3) := by decide +kernel
theorem dX2_sayYes_47 : decode cX2_sayYes 47 = .ok (.iconst 3, 1) := by decide +kernel
theorem dX2_sayYes_48 : decode cX2_sayYes 48 = .ok (.ireturn, 1) := by decide +kernel
theorem dX2_sayYes_49 : decode cX2_sayYes 49 = .ok (.aload_n 2, 1) := by decide +kernel
theorem dX2_sayYes_50 : decode cX2_sayYes 50 = .ok (.getfield 141, 3) := by decide +kernel
theorem dX2_sayYes_53 : decode cX2_sayYes 53 = .ok (.ifCond .eq 6, 3) := by decide +kernel
theorem dX2_sayYes_56 : decode cX2_sayYes 56 = .ok (.bipush 10, 2) := by decide +kernel
theorem dX2_sayYes_58 : decode cX2_sayYes 58 = .ok (.ireturn, 1) := by decide +kernel
theorem dX2_sayYes_59 : decode cX2_sayYes 59 = .ok (.aload_n 2, 1) := by decide +kernel
theorem dX2_sayYes_60 : decode cX2_sayYes 60 = .ok (.getfield 208, 3) := by decide +kernel
theorem dX2_sayYes_63 : decode cX2_sayYes 63 = .ok (.ifCond .ne 10, 3) := by decide +kernel
theorem dX2_sayYes_66 : decode cX2_sayYes 66 = .ok (.aload_n 2, 1) := by decide +kernel
theorem dX2_sayYes_67 : decode cX2_sayYes 67 = .ok (.getfield 211, 3) := by decide +kernel
theorem dX2_sayYes_70 : decode cX2_sayYes 70 = .ok (.ifCond .eq 6, 3) := by decide +kernel
theorem dX2_sayYes_73 : decode cX2_sayYes 73 = .ok (.bipush 8, 2) := by decide +kernel
theorem dX2_sayYes_75 : decode cX2_sayYes 75 = .ok (.ireturn, 1) := by decide +kernel
theorem dX2_sayYes_76 : decode cX2_sayYes 76 = .ok (.aload_n 2, 1) := by decide +kernel
theorem dX2_sayYes_77 : decode cX2_sayYes 77 = .ok (.iconst 1, 1) := by decide +kernel
theorem dX2_sayYes_78 : decode cX2_sayYes 78 = .ok (.putfield 211, 3) := by decide +kernel
theorem dX2_sayYes_81 : decode cX2_sayYes 81 = .ok (.iconst 0, 1) := by decide +kernel
theorem dX2_sayYes_82 : decode cX2_sayYes 82 = .ok (.ireturn, 1) := by decide +kernel
theorem dX2_endRound_0 : decode cX2_endRound 0 = .ok (.aload_n 0, 1) := by decide +kernel
theorem dX2_endRound_1 : decode cX2_endRound 1 = .ok (.getfield 42, 3) := by decide +kernel
theorem dX2_endRound_4 : decode cX2_endRound 4 = .ok (.getfield 85, 3) := by decide +kernel
theorem dX2_endRound_7 : decode cX2_endRound 7 = .ok (.iconst 1, 1) := by decide +kernel
theorem dX2_endRound_8 : decode cX2_endRound 8 = .ok (.if_icmp .eq 5, 3) := by decide +kernel
theorem dX2_endRound_11 : decode cX2_endRound 11 = .ok (.iconst 2, 1) := by decide +kernel
theorem dX2_endRound_12 : decode cX2_endRound 12 = .ok (.ireturn, 1) := by decide +kernel
theorem dX2_endRound_13 : decode cX2_endRound 13 = .ok (.aload_n 0, 1) := by decide +kernel
theorem dX2_endRound_14 : decode cX2_endRound 14 = .ok (.getfield 42, 3) := by decide +kernel
theorem dX2_endRound_17 : decode cX2_endRound 17 = .ok (.invokevirtual 148, 3) := by decide +kernel
theorem dX2_endRound_20 : decode cX2_endRound 20 = .ok (.ifCond .ne 6, 3) := by decide +kernel
theorem dX2_endRound_23 : decode cX2_endRound 23 = .ok (.bipush 8, 2) := by decide +kernel
theorem dX2_endRound_25 : decode cX2_endRound 25 = .ok (.ireturn, 1) := by decide +kernel
theorem dX2_endRound_26 : decode cX2_endRound 26 = .ok (.aload_n 0, 1) := by decide +kernel
theorem dX2_endRound_27 : decode cX2_endRound 27 = .ok (.invokevirtual 214, 3) := by decide +kernel
theorem dX2_endRound_30 : decode cX2_endRound 30 = .ok (.aload_n 0, 1) := by decide +kernel
theorem dX2_endRound_31 : decode cX2_endRound 31 = .ok (.invokevirtual 217, 3) := by decide +kernel
theorem dX2_endRound_34 : decode cX2_endRound 34 = .ok (.lstore_n 1, 1) := by decide +kernel
theorem dX2_endRound_35 : decode cX2_endRound 35 = .ok (.aload_n 0, 1) := by decide +kernel
theorem dX2_endRound_36 : decode cX2_endRound 36 = .ok (.getfield 42, 3) := by decide +kernel
theorem dX2_endRound_39 : decode cX2_endRound 39 = .ok (.getfield 46, 3) := by decide +kernel
theorem dX2_endRound_42 : decode cX2_endRound 42 = .ok (.aload_n 0, 1) := by decide +kernel
theorem dX2_endRound_43 : decode cX2_endRound 43 = .ok (.invokevirtual 195, 3) := by decide +kernel
theorem dX2_endRound_46 : decode cX2_endRound 46 = .ok (.lload_n 1, 1) := by decide +kernel
theorem dX2_endRound_47 : decode cX2_endRound 47 = .ok (.lsub, 1) := by decide +kernel
theorem dX2_endRound_48 : decode cX2_endRound 48 = .ok (.invokestatic 220, 3) := by decide +kernel
theorem dX2_endRound_51 : decode cX2_endRound 51 = .ok (.lstore_n 3, 1) := by decide +kernel
theorem dX2_endRound_52 : decode cX2_endRound 52 = .ok (.aload_n 0, 1) := by decide +kernel
theorem dX2_endRound_53 : decode cX2_endRound 53 = .ok (.getfield 42, 3) := by decide +kernel
theorem dX2_endRound_56 : decode cX2_endRound 56 = .ok (.dup, 1) := by decide +kernel
theorem dX2_endRound_57 : decode cX2_endRound 57 = .ok (.getfield 46, 3) := by decide +kernel
theorem dX2_endRound_60 : decode cX2_endRound 60 = .ok (.lload_n 3, 1) := by decide +kernel
theorem dX2_endRound_61 : decode cX2_endRound 61 = .ok (.lsub, 1) := by decide +kernel
theorem dX2_endRound_62 : decode cX2_endRound 62 = .ok (.putfield 46, 3) := by decide +kernel
theorem dX2_endRound_65 : decode cX2_endRound 65 = .ok (.lload_n 1, 1) := by decide +kernel
theorem dX2_endRound_66 : decode cX2_endRound 66 = .ok (.lload_n 3, 1) := by decide +kernel
theorem dX2_endRound_67 : decode cX2_endRound 67 = .ok (.ladd, 1) := by decide +kernel
theorem dX2_endRound_68 : decode cX2_endRound 68 = .ok (.lstore 5, 2) := by decide +kernel
theorem dX2_endRound_70 : decode cX2_endRound 70 = .ok (.aload_n 0, 1) := by decide +kernel
theorem dX2_endRound_71 : decode cX2_endRound 71 = .ok (.invokevirtual 226, 3) := by decide +kernel
theorem dX2_endRound_74 : decode cX2_endRound 74 = .ok (.istore 7, 2) := by decide +kernel
theorem dX2_endRound_76 : decode cX2_endRound 76 = .ok (.aload_n 0, 1) := by decide +kernel
theorem dX2_endRound_77 : decode cX2_endRound 77 = .ok (.iload 7, 2) := by decide +kernel
theorem dX2_endRound_79 : decode cX2_endRound 79 = .ok (.lload 5, 2) := by decide +kernel
theorem dX2_endRound_81 : decode cX2_endRound 81 = .ok (.invokevirtual 229, 3) := by decide +kernel
theorem dX2_endRound_84 : decode cX2_endRound 84 = .ok (.lstore 8, 2) := by decide +kernel
theorem dX2_endRound_86 : decode cX2_endRound 86 = .ok (.aload_n 0, 1) := by decide +kernel
theorem dX2_endRound_87 : decode cX2_endRound 87 = .ok (.iload 7, 2) := by decide +kernel
theorem dX2_endRound_89 : decode cX2_endRound 89 = .ok (.lload 5, 2) := by decide +kernel
theorem dX2_endRound_91 : decode cX2_endRound 91 = .ok (.lload 8, 2) := by decide +kernel
theorem dX2_endRound_93 : decode cX2_endRound 93 = .ok (.lload_n 3, 1) := by decide +kernel
theorem dX2_endRound_94 : decode cX2_endRound 94 = .ok (.invokevirtual 233, 3) := by decide +kernel
theorem dX2_endRound_97 : decode cX2_endRound 97 = .ok (.aload_n 0, 1) := by decide +kernel
theorem dX2_endRound_98 : decode cX2_endRound 98 = .ok (.getfield 42, 3) := by decide +kernel
theorem dX2_endRound_101 : decode cX2_endRound 101 = .ok (.invokevirtual 236, 3) := by decide +kernel
theorem dX2_endRound_104 : decode cX2_endRound 104 = .ok (.aload_n 0, 1) := by decide +kernel
theorem dX2_endRound_105 : decode cX2_endRound 105 = .ok (.getfield 42, 3) := by decide +kernel
theorem dX2_endRound_108 : decode cX2_endRound 108 = .ok (.dup, 1) := by decide +kernel
theorem dX2_endRound_109 : decode cX2_endRound 109 = .ok (.getfield 76, 3) := by decide +kernel
theorem dX2_endRound_112 : decode cX2_endRound 112 = .ok (.iconst 1, 1) := by decide +kernel
theorem dX2_endRound_113 : decode cX2_endRound 113 = .ok (.iadd, 1) := by decide +kernel
theorem dX2_endRound_114 : decode cX2_endRound 114 = .ok (.putfield 76, 3) := by decide +kernel
theorem dX2_endRound_117 : decode cX2_endRound 117 = .ok (.iconst 0, 1) := by decide +kernel
theorem dX2_endRound_118 : decode cX2_endRound 118 = .ok (.ireturn, 1) := by decide +kernel
theorem dX2_keepBook_0 : decode cX2_keepBook 0 = .ok (.aload_n 0, 1) := by decide +kernel
theorem dX2_keepBook_1 : decode cX2_keepBook 1 = .ok (.getfield 42, 3) := by decide +kernel
theorem dX2_keepBook_4 : decode cX2_keepBook 4 = .ok (.getfield 76, 3) := by decide +kernel
theorem dX2_keepBook_7 : decode cX2_keepBook 7 = .ok (.istore_n 1, 1) := by decide +kernel
theorem dX2_keepBook_8 : decode cX2_keepBook 8 = .ok (.iload_n 1, 1) := by decide +kernel
theorem dX2_keepBook_9 : decode cX2_keepBook 9 = .ok (.ifCond .lt 9, 3) := by decide +kernel
theorem dX2_keepBook_12 : decode cX2_keepBook 12 = .ok (.iload_n 1, 1) := by decide +kernel
theorem dX2_keepBook_13 : decode cX2_keepBook 13 = .ok (.bipush 60, 2) := by decide +kernel
theorem dX2_keepBook_15 : decode cX2_keepBook 15 = .ok (.if_icmp .lt 4, 3) := by decide +kernel
theorem dX2_keepBook_18 : decode cX2_keepBook 18 = .ok (.return_, 1) := by decide +kernel
theorem dX2_keepBook_19 : decode cX2_keepBook 19 = .ok (.aload_n 0, 1) := by decide +kernel
theorem dX2_keepBook_20 : decode cX2_keepBook 20 = .ok (.getfield 49, 3) := by decide +kernel
theorem dX2_keepBook_23 : decode cX2_keepBook 23 = .ok (.iload_n 1, 1) := by decide +kernel
theorem dX2_keepBook_24 : decode cX2_keepBook 24 = .ok (.aaload, 1) := by decide +kernel
theorem dX2_keepBook_25 : decode cX2_keepBook 25 = .ok (.ifnonnull 16, 3) := by decide +kernel
theorem dX2_keepBook_28 : decode cX2_keepBook 28 = .ok (.aload_n 0, 1) := by decide +kernel
theorem dX2_keepBook_29 : decode cX2_keepBook 29 = .ok (.getfield 49, 3) := by decide +kernel
theorem dX2_keepBook_32 : decode cX2_keepBook 32 = .ok (.iload_n 1, 1) := by decide +kernel
theorem dX2_keepBook_33 : decode cX2_keepBook 33 = .ok (.new 39, 3) := by decide +kernel
theorem dX2_keepBook_36 : decode cX2_keepBook 36 = .ok (.dup, 1) := by decide +kernel
theorem dX2_keepBook_37 : decode cX2_keepBook 37 = .ok (.invokespecial 41, 3) := by decide +kernel
theorem dX2_keepBook_40 : decode cX2_keepBook 40 = .ok (.aastore, 1) := by decide +kernel
theorem dX2_keepBook_41 : decode cX2_keepBook 41 = .ok (.aload_n 0, 1) := by decide +kernel
theorem dX2_keepBook_42 : decode cX2_keepBook 42 = .ok (.getfield 49, 3) := by decide +kernel
theorem dX2_keepBook_45 : decode cX2_keepBook 45 = .ok (.iload_n 1, 1) := by decide +kernel
theorem dX2_keepBook_46 : decode cX2_keepBook 46 = .ok (.aaload, 1) := by decide +kernel
theorem dX2_keepBook_47 : decode cX2_keepBook 47 = .ok (.aload_n 0, 1) := by decide +kernel
theorem dX2_keepBook_48 : decode cX2_keepBook 48 = .ok (.getfield 42, 3) := by decide +kernel
theorem dX2_keepBook_51 : decode cX2_keepBook 51 = .ok (.invokevirtual 73, 3) := by decide +kernel
theorem dX2_keepBook_54 : decode cX2_keepBook 54 = .ok (.return_, 1) := by decide +kernel
theorem dX2_keepRound_0 : decode cX2_keepRound 0 = .ok (.aload_n 0, 1) := by decide +kernel
theorem dX2_keepRound_1 : decode cX2_keepRound 1 = .ok (.getfield 42, 3) := by decide +kernel
theorem dX2_keepRound_4 : decode cX2_keepRound 4 = .ok (.getfield 76, 3) := by decide +kernel
theorem dX2_keepRound_7 : decode cX2_keepRound 7 = .ok (.iconst 4, 1) := by decide +kernel
theorem dX2_keepRound_8 : decode cX2_keepRound 8 = .ok (.imul, 1) := by decide +kernel
theorem dX2_keepRound_9 : decode cX2_keepRound 9 = .ok (.istore 8, 2) := by decide +kernel
theorem dX2_keepRound_11 : decode cX2_keepRound 11 = .ok (.iload 8, 2) := by decide +kernel
theorem dX2_keepRound_13 : decode cX2_keepRound 13 = .ok (.ifCond .lt 15, 3) := by decide +kernel
theorem dX2_keepRound_16 : decode cX2_keepRound 16 = .ok (.iload 8, 2) := by decide +kernel
theorem dX2_keepRound_18 : decode cX2_keepRound 18 = .ok (.iconst 4, 1) := by decide +kernel
theorem dX2_keepRound_19 : decode cX2_keepRound 19 = .ok (.iadd, 1) := by decide +kernel
theorem dX2_keepRound_20 : decode cX2_keepRound 20 = .ok (.aload_n 0, 1) := by decide +kernel
theorem dX2_keepRound_21 : decode cX2_keepRound 21 = .ok (.getfield 29, 3) := by decide +kernel
theorem dX2_keepRound_24 : decode cX2_keepRound 24 = .ok (.arraylength, 1) := by decide +kernel
theorem dX2_keepRound_25 : decode cX2_keepRound 25 = .ok (.if_icmp .le 4, 3) := by decide +kernel
theorem dX2_keepRound_28 : decode cX2_keepRound 28 = .ok (.return_, 1) := by decide +kernel
theorem dX2_keepRound_29 : decode cX2_keepRound 29 = .ok (.aload_n 0, 1) := by decide +kernel
theorem dX2_keepRound_30 : decode cX2_keepRound 30 = .ok (.getfield 29, 3) := by decide +kernel
theorem dX2_keepRound_33 : decode cX2_keepRound 33 = .ok (.iload 8, 2) := by decide +kernel
theorem dX2_keepRound_35 : decode cX2_keepRound 35 = .ok (.iload_n 1, 1) := by decide +kernel
theorem dX2_keepRound_36 : decode cX2_keepRound 36 = .ok (.i2l, 1) := by decide +kernel
theorem dX2_keepRound_37 : decode cX2_keepRound 37 = .ok (.lastore, 1) := by decide +kernel
theorem dX2_keepRound_38 : decode cX2_keepRound 38 = .ok (.aload_n 0, 1) := by decide +kernel
theorem dX2_keepRound_39 : decode cX2_keepRound 39 = .ok (.getfield 29, 3) := by decide +kernel
theorem dX2_keepRound_42 : decode cX2_keepRound 42 = .ok (.iload 8, 2) := by decide +kernel
theorem dX2_keepRound_44 : decode cX2_keepRound 44 = .ok (.iconst 1, 1) := by decide +kernel
theorem dX2_keepRound_45 : decode cX2_keepRound 45 = .ok (.iadd, 1) := by decide +kernel
theorem dX2_keepRound_46 : decode cX2_keepRound 46 = .ok (.lload_n 2, 1) := by decide +kernel
theorem dX2_keepRound_47 : decode cX2_keepRound 47 = .ok (.lastore, 1) := by decide +kernel
theorem dX2_keepRound_48 : decode cX2_keepRound 48 = .ok (.aload_n 0, 1) := by decide +kernel
theorem dX2_keepRound_49 : decode cX2_keepRound 49 = .ok (.getfield 29, 3) := by decide +kernel
theorem dX2_keepRound_52 : decode cX2_keepRound 52 = .ok (.iload 8, 2) := by decide +kernel
theorem dX2_keepRound_54 : decode cX2_keepRound 54 = .ok (.iconst 2, 1) := by decide +kernel
theorem dX2_keepRound_55 : decode cX2_keepRound 55 = .ok (.iadd, 1) := by decide +kernel
theorem dX2_keepRound_56 : decode cX2_keepRound 56 = .ok (.lload 4, 2) := by decide +kernel
theorem dX2_keepRound_58 : decode cX2_keepRound 58 = .ok (.lastore, 1) := by decide +kernel
theorem dX2_keepRound_59 : decode cX2_keepRound 59 = .ok (.aload_n 0, 1) := by decide +kernel
theorem dX2_keepRound_60 : decode cX2_keepRound 60 = .ok (.getfield 29, 3) := by decide +kernel
theorem dX2_keepRound_63 : decode cX2_keepRound 63 = .ok (.iload 8, 2) := by decide +kernel
theorem dX2_keepRound_65 : decode cX2_keepRound 65 = .ok (.iconst 3, 1) := by decide +kernel
theorem dX2_keepRound_66 : decode cX2_keepRound 66 = .ok (.iadd, 1) := by decide +kernel
theorem dX2_keepRound_67 : decode cX2_keepRound 67 = .ok (.lload 6, 2) := by decide +kernel
theorem dX2_keepRound_69 : decode cX2_keepRound 69 = .ok (.lastore, 1) := by decide +kernel
theorem dX2_keepRound_70 : decode cX2_keepRound 70 = .ok (.return_, 1) := by decide +kernel
theorem dX2_collect_0 : decode cX2_collect 0 = .ok (.lconst 0, 1) := by decide +kernel
theorem dX2_collect_1 : decode cX2_collect 1 = .ok (.lstore_n 1, 1) := by decide +kernel
theorem dX2_collect_2 : decode cX2_collect 2 = .ok (.aload_n 0, 1) := by decide +kernel
theorem dX2_collect_3 : decode cX2_collect 3 = .ok (.getfield 42, 3) := by decide +kernel
theorem dX2_collect_6 : decode cX2_collect 6 = .ok (.getfield 126, 3) := by decide +kernel
theorem dX2_collect_9 : decode cX2_collect 9 = .ok (.astore_n 3, 1) := by decide +kernel
theorem dX2_collect_10 : decode cX2_collect 10 = .ok (.aload_n 3, 1) := by decide +kernel
theorem dX2_collect_11 : decode cX2_collect 11 = .ok (.arraylength, 1) := by decide +kernel
theorem dX2_collect_12 : decode cX2_collect 12 = .ok (.istore 4, 2) := by decide +kernel
theorem dX2_collect_14 : decode cX2_collect 14 = .ok (.iconst 0, 1) := by decide +kernel
theorem dX2_collect_15 : decode cX2_collect 15 = .ok (.istore 5, 2) := by decide +kernel
theorem dX2_collect_17 : decode cX2_collect 17 = .ok (.iload 5, 2) := by decide +kernel
theorem dX2_collect_19 : decode cX2_collect 19 = .ok (.iload 4, 2) := by decide +kernel
theorem dX2_collect_21 : decode cX2_collect 21 = .ok (.if_icmp .ge 50, 3) := by decide +kernel
theorem dX2_collect_24 : decode cX2_collect 24 = .ok (.aload_n 3, 1) := by decide +kernel
theorem dX2_collect_25 : decode cX2_collect 25 = .ok (.iload 5, 2) := by decide +kernel
theorem dX2_collect_27 : decode cX2_collect 27 = .ok (.aaload, 1) := by decide +kernel
theorem dX2_collect_28 : decode cX2_collect 28 = .ok (.astore 6, 2) := by decide +kernel
theorem dX2_collect_30 : decode cX2_collect 30 = .ok (.aload 6, 2) := by decide +kernel
theorem dX2_collect_32 : decode cX2_collect 32 = .ok (.invokevirtual 239, 3) := by decide +kernel
theorem dX2_collect_35 : decode cX2_collect 35 = .ok (.ifCond .eq 30, 3) := by decide +kernel
theorem dX2_collect_38 : decode cX2_collect 38 = .ok (.lload_n 1, 1) := by decide +kernel
theorem dX2_collect_39 : decode cX2_collect 39 = .ok (.aload 6, 2) := by decide +kernel
theorem dX2_collect_41 : decode cX2_collect 41 = .ok (.getfield 179, 3) := by decide +kernel
theorem dX2_collect_44 : decode cX2_collect 44 = .ok (.i2l, 1) := by decide +kernel
theorem dX2_collect_45 : decode cX2_collect 45 = .ok (.aload_n 0, 1) := by decide +kernel
theorem dX2_collect_46 : decode cX2_collect 46 = .ok (.aload 6, 2) := by decide +kernel
theorem dX2_collect_48 : decode cX2_collect 48 = .ok (.aload_n 0, 1) := by decide +kernel
theorem dX2_collect_49 : decode cX2_collect 49 = .ok (.getfield 15, 3) := by decide +kernel
theorem dX2_collect_52 : decode cX2_collect 52 = .ok (.aload 6, 2) := by decide +kernel
theorem dX2_collect_54 : decode cX2_collect 54 = .ok (.getfield 179, 3) := by decide +kernel
theorem dX2_collect_57 : decode cX2_collect 57 = .ok (.i2l, 1) := by decide +kernel
theorem dX2_collect_58 : decode cX2_collect 58 = .ok (.lsub, 1) := by decide +kernel
theorem dX2_collect_59 : decode cX2_collect 59 = .ok (.invokevirtual 242, 3) := by decide +kernel
theorem dX2_collect_62 : decode cX2_collect 62 = .ok (.ladd, 1) := by decide +kernel
theorem dX2_collect_63 : decode cX2_collect 63 = .ok (.ladd, 1) := by decide +kernel
theorem dX2_collect_64 : decode cX2_collect 64 = .ok (.lstore_n 1, 1) := by decide +kernel
theorem dX2_collect_65 : decode cX2_collect 65 = .ok (.iinc 5 1, 3) := by decide +kernel
theorem dX2_collect_68 : decode cX2_collect 68 = .ok (.goto (-51), 3) := by decide +kernel
theorem dX2_collect_71 : decode cX2_collect 71 = .ok (.lload_n 1, 1) := by decide +kernel
theorem dX2_collect_72 : decode cX2_collect 72 = .ok (.lreturn, 1) := by decide +kernel
theorem dX2_putInFor_0 : decode cX2_putInFor 0 = .ok (.lload_n 2, 1) := by decide +kernel
theorem dX2_putInFor_1 : decode cX2_putInFor 1 = .ok (.lconst 0, 1) := by decide +kernel
theorem dX2_putInFor_2 : decode cX2_putInFor 2 = .ok (.lcmp, 1) := by decide +kernel
theorem dX2_putInFor_3 : decode cX2_putInFor 3 = .ok (.ifCond .gt 5, 3) := by decide +kernel
theorem dX2_putInFor_6 : decode cX2_putInFor 6 = .ok (.lconst 0, 1) := by decide +kernel
theorem dX2_putInFor_7 : decode cX2_putInFor 7 = .ok (.lreturn, 1) := by decide +kernel
theorem dX2_putInFor_8 : decode cX2_putInFor 8 = .ok (.aload_n 1, 1) := by decide +kernel
theorem dX2_putInFor_9 : decode cX2_putInFor 9 = .ok (.iconst 0, 1) := by decide +kernel
theorem dX2_putInFor_10 : decode cX2_putInFor 10 = .ok (.putfield 134, 3) := by decide +kernel
theorem dX2_putInFor_13 : decode cX2_putInFor 13 = .ok (.lconst 0, 1) := by decide +kernel
theorem dX2_putInFor_14 : decode cX2_putInFor 14 = .ok (.lstore 4, 2) := by decide +kernel
theorem dX2_putInFor_16 : decode cX2_putInFor 16 = .ok (.aload_n 0, 1) := by decide +kernel
theorem dX2_putInFor_17 : decode cX2_putInFor 17 = .ok (.getfield 42, 3) := by decide +kernel
theorem dX2_putInFor_20 : decode cX2_putInFor 20 = .ok (.aload_n 1, 1) := by decide +kernel
theorem dX2_putInFor_21 : decode cX2_putInFor 21 = .ok (.getfield 109, 3) := by decide +kernel
theorem dX2_putInFor_24 : decode cX2_putInFor 24 = .ok (.invokevirtual 88, 3) := by decide +kernel
theorem dX2_putInFor_27 : decode cX2_putInFor 27 = .ok (.astore 6, 2) := by decide +kernel
theorem dX2_putInFor_29 : decode cX2_putInFor 29 = .ok (.aload 6, 2) := by decide +kernel
theorem dX2_putInFor_31 : decode cX2_putInFor 31 = .ok (.ifnull 34, 3) := by decide +kernel
theorem dX2_putInFor_34 : decode cX2_putInFor 34 = .ok (.aload 6, 2) := by decide +kernel
theorem dX2_putInFor_36 : decode cX2_putInFor 36 = .ok (.getfield 141, 3) := by decide +kernel
theorem dX2_putInFor_39 : decode cX2_putInFor 39 = .ok (.ifCond .ne 26, 3) := by decide +kernel
theorem dX2_putInFor_42 : decode cX2_putInFor 42 = .ok (.lload_n 2, 1) := by decide +kernel
theorem dX2_putInFor_43 : decode cX2_putInFor 43 = .ok (.aload 6, 2) := by decide +kernel
theorem dX2_putInFor_45 : decode cX2_putInFor 45 = .ok (.getfield 145, 3) := by decide +kernel
theorem dX2_putInFor_48 : decode cX2_putInFor 48 = .ok (.invokestatic 220, 3) := by decide +kernel
theorem dX2_putInFor_51 : decode cX2_putInFor 51 = .ok (.lstore 4, 2) := by decide +kernel
theorem dX2_putInFor_53 : decode cX2_putInFor 53 = .ok (.aload 6, 2) := by decide +kernel
theorem dX2_putInFor_55 : decode cX2_putInFor 55 = .ok (.dup, 1) := by decide +kernel
theorem dX2_putInFor_56 : decode cX2_putInFor 56 = .ok (.getfield 145, 3) := by decide +kernel
theorem dX2_putInFor_59 : decode cX2_putInFor 59 = .ok (.lload 4, 2) := by decide +kernel
theorem dX2_putInFor_61 : decode cX2_putInFor 61 = .ok (.lsub, 1) := by decide +kernel
theorem dX2_putInFor_62 : decode cX2_putInFor 62 = .ok (.putfield 145, 3) := by decide +kernel
theorem dX2_putInFor_65 : decode cX2_putInFor 65 = .ok (.aload_n 1, 1) := by decide +kernel
theorem dX2_putInFor_66 : decode cX2_putInFor 66 = .ok (.dup, 1) := by decide +kernel
theorem dX2_putInFor_67 : decode cX2_putInFor 67 = .ok (.getfield 246, 3) := by decide +kernel
theorem dX2_putInFor_70 : decode cX2_putInFor 70 = .ok (.lload 4, 2) := by decide +kernel
theorem dX2_putInFor_72 : decode cX2_putInFor 72 = .ok (.ladd, 1) := by decide +kernel
theorem dX2_putInFor_73 : decode cX2_putInFor 73 = .ok (.putfield 246, 3) := by decide +kernel
theorem dX2_putInFor_76 : decode cX2_putInFor 76 = .ok (.aload_n 1, 1) := by decide +kernel
theorem dX2_putInFor_77 : decode cX2_putInFor 77 = .ok (.dup, 1) := by decide +kernel
theorem dX2_putInFor_78 : decode cX2_putInFor 78 = .ok (.getfield 185, 3) := by decide +kernel
theorem dX2_putInFor_81 : decode cX2_putInFor 81 = .ok (.lload_n 2, 1) := by decide +kernel
theorem dX2_putInFor_82 : decode cX2_putInFor 82 = .ok (.lload 4, 2) := by decide +kernel
theorem dX2_putInFor_84 : decode cX2_putInFor 84 = .ok (.lsub, 1) := by decide +kernel
theorem dX2_putInFor_85 : decode cX2_putInFor 85 = .ok (.ladd, 1) := by decide +kernel
theorem dX2_putInFor_86 : decode cX2_putInFor 86 = .ok (.putfield 185, 3) := by decide +kernel
theorem dX2_putInFor_89 : decode cX2_putInFor 89 = .ok (.lload 4, 2) := by decide +kernel
theorem dX2_putInFor_91 : decode cX2_putInFor 91 = .ok (.lreturn, 1) := by decide +kernel
theorem dX2_whoDraws_0 : decode cX2_whoDraws 0 = .ok (.aload_n 0, 1) := by decide +kernel
theorem dX2_whoDraws_1 : decode cX2_whoDraws 1 = .ok (.getfield 9, 3) := by decide +kernel
theorem dX2_whoDraws_4 : decode cX2_whoDraws 4 = .ok (.tableswitch 43 0 2 #[28, 33, 38], 28) := by decide +kernel
theorem dX2_whoDraws_32 : decode cX2_whoDraws 32 = .ok (.aload_n 0, 1) := by decide +kernel
theorem dX2_whoDraws_33 : decode cX2_whoDraws 33 = .ok (.invokevirtual 249, 3) := by decide +kernel
theorem dX2_whoDraws_36 : decode cX2_whoDraws 36 = .ok (.ireturn, 1) := by decide +kernel
theorem dX2_whoDraws_37 : decode cX2_whoDraws 37 = .ok (.aload_n 0, 1) := by decide +kernel
theorem dX2_whoDraws_38 : decode cX2_whoDraws 38 = .ok (.invokevirtual 252, 3) := by decide +kernel
theorem dX2_whoDraws_41 : decode cX2_whoDraws 41 = .ok (.ireturn, 1) := by decide +kernel
theorem dX2_whoDraws_42 : decode cX2_whoDraws 42 = .ok (.aload_n 0, 1) := by decide +kernel
theorem dX2_whoDraws_43 : decode cX2_whoDraws 43 = .ok (.invokevirtual 255, 3) := by decide +kernel
theorem dX2_whoDraws_46 : decode cX2_whoDraws 46 = .ok (.ireturn, 1) := by decide +kernel
theorem dX2_whoDraws_47 : decode cX2_whoDraws 47 = .ok (.aload_n 0, 1) := by decide +kernel
theorem dX2_whoDraws_48 : decode cX2_whoDraws 48 = .ok (.invokevirtual 258, 3) := by decide +kernel
theorem dX2_whoDraws_51 : decode cX2_whoDraws 51 = .ok (.ireturn, 1) := by decide +kernel
theorem dX2_firstInOrder_0 : decode cX2_firstInOrder 0 = .ok (.iconst 0, 1) := by decide +kernel
theorem dX2_firstInOrder_1 : decode cX2_firstInOrder 1 = .ok (.istore_n 1, 1) := by decide +kernel
theorem dX2_firstInOrder_2 : decode cX2_firstInOrder 2 = .ok (.iload_n 1, 1) := by decide +kernel
theorem dX2_firstInOrder_3 : decode cX2_firstInOrder 3 = .ok (.aload_n 0, 1) := by decide +kernel
theorem dX2_firstInOrder_4 : decode cX2_firstInOrder 4 = .ok (.getfield 62, 3) := by decide +kernel
theorem dX2_firstInOrder_7 : decode cX2_firstInOrder 7 = .ok (.if_icmp .ge 47, 3) := by decide +kernel
theorem dX2_firstInOrder_10 : decode cX2_firstInOrder 10 = .ok (.iload_n 1, 1) := by decide +kernel
theorem dX2_firstInOrder_11 : decode cX2_firstInOrder 11 = .ok (.bipush 60, 2) := by decide +kernel
theorem dX2_firstInOrder_13 : decode cX2_firstInOrder 13 = .ok (.if_icmp .ge 41, 3) := by decide +kernel
theorem dX2_firstInOrder_16 : decode cX2_firstInOrder 16 = .ok (.aload_n 0, 1) := by decide +kernel
theorem dX2_firstInOrder_17 : decode cX2_firstInOrder 17 = .ok (.getfield 42, 3) := by decide +kernel
theorem dX2_firstInOrder_20 : decode cX2_firstInOrder 20 = .ok (.aload_n 0, 1) := by decide +kernel
theorem dX2_firstInOrder_21 : decode cX2_firstInOrder 21 = .ok (.getfield 22, 3) := by decide +kernel
theorem dX2_firstInOrder_24 : decode cX2_firstInOrder 24 = .ok (.iload_n 1, 1) := by decide +kernel
theorem dX2_firstInOrder_25 : decode cX2_firstInOrder 25 = .ok (.iaload, 1) := by decide +kernel
theorem dX2_firstInOrder_26 : decode cX2_firstInOrder 26 = .ok (.invokevirtual 88, 3) := by decide +kernel
theorem dX2_firstInOrder_29 : decode cX2_firstInOrder 29 = .ok (.astore_n 2, 1) := by decide +kernel
theorem dX2_firstInOrder_30 : decode cX2_firstInOrder 30 = .ok (.aload_n 2, 1) := by decide +kernel
theorem dX2_firstInOrder_31 : decode cX2_firstInOrder 31 = .ok (.ifnull 17, 3) := by decide +kernel
theorem dX2_firstInOrder_34 : decode cX2_firstInOrder 34 = .ok (.aload_n 2, 1) := by decide +kernel
theorem dX2_firstInOrder_35 : decode cX2_firstInOrder 35 = .ok (.invokevirtual 261, 3) := by decide +kernel
theorem dX2_firstInOrder_38 : decode cX2_firstInOrder 38 = .ok (.ifCond .eq 10, 3) := by decide +kernel
theorem dX2_firstInOrder_41 : decode cX2_firstInOrder 41 = .ok (.aload_n 0, 1) := by decide +kernel
theorem dX2_firstInOrder_42 : decode cX2_firstInOrder 42 = .ok (.getfield 22, 3) := by decide +kernel
theorem dX2_firstInOrder_45 : decode cX2_firstInOrder 45 = .ok (.iload_n 1, 1) := by decide +kernel
theorem dX2_firstInOrder_46 : decode cX2_firstInOrder 46 = .ok (.iaload, 1) := by decide +kernel
theorem dX2_firstInOrder_47 : decode cX2_firstInOrder 47 = .ok (.ireturn, 1) := by decide +kernel
theorem dX2_firstInOrder_48 : decode cX2_firstInOrder 48 = .ok (.iinc 1 1, 3) := by decide +kernel
theorem dX2_firstInOrder_51 : decode cX2_firstInOrder 51 = .ok (.goto (-49), 3) := by decide +kernel
theorem dX2_firstInOrder_54 : decode cX2_firstInOrder 54 = .ok (.aload_n 0, 1) := by decide +kernel
theorem dX2_firstInOrder_55 : decode cX2_firstInOrder 55 = .ok (.getfield 42, 3) := by decide +kernel
theorem dX2_firstInOrder_58 : decode cX2_firstInOrder 58 = .ok (.lconst 0, 1) := by decide +kernel
theorem dX2_firstInOrder_59 : decode cX2_firstInOrder 59 = .ok (.invokevirtual 264, 3) := by decide +kernel
theorem dX2_firstInOrder_62 : decode cX2_firstInOrder 62 = .ok (.ireturn, 1) := by decide +kernel
theorem dX2_drawnByLot_0 : decode cX2_drawnByLot 0 = .ok (.aload_n 0, 1) := by decide +kernel
theorem dX2_drawnByLot_1 : decode cX2_drawnByLot 1 = .ok (.getfield 42, 3) := by decide +kernel
theorem dX2_drawnByLot_4 : decode cX2_drawnByLot 4 = .ok (.invokevirtual 268, 3) := by decide +kernel
theorem dX2_drawnByLot_7 : decode cX2_drawnByLot 7 = .ok (.istore_n 1, 1) := by decide +kernel
theorem dX2_drawnByLot_8 : decode cX2_drawnByLot 8 = .ok (.iload_n 1, 1) := by decide +kernel
theorem dX2_drawnByLot_9 : decode cX2_drawnByLot 9 = .ok (.ifCond .ne 5, 3) := by decide +kernel
theorem dX2_drawnByLot_12 : decode cX2_drawnByLot 12 = .ok (.iconst (-1), 1) := by decide +kernel
theorem dX2_drawnByLot_13 : decode cX2_drawnByLot 13 = .ok (.ireturn, 1) := by decide +kernel
theorem dX2_drawnByLot_14 : decode cX2_drawnByLot 14 = .ok (.aload_n 0, 1) := by decide +kernel
theorem dX2_drawnByLot_15 : decode cX2_drawnByLot 15 = .ok (.getfield 42, 3) := by decide +kernel
theorem dX2_drawnByLot_18 : decode cX2_drawnByLot 18 = .ok (.getfield 76, 3) := by decide +kernel
theorem dX2_drawnByLot_21 : decode cX2_drawnByLot 21 = .ok (.istore_n 2, 1) := by decide +kernel
theorem dX2_drawnByLot_22 : decode cX2_drawnByLot 22 = .ok (.iload_n 2, 1) := by decide +kernel
theorem dX2_drawnByLot_23 : decode cX2_drawnByLot 23 = .ok (.ifCond .lt 29, 3) := by decide +kernel
theorem dX2_drawnByLot_26 : decode cX2_drawnByLot 26 = .ok (.iload_n 2, 1) := by decide +kernel
theorem dX2_drawnByLot_27 : decode cX2_drawnByLot 27 = .ok (.aload_n 0, 1) := by decide +kernel
theorem dX2_drawnByLot_28 : decode cX2_drawnByLot 28 = .ok (.getfield 42, 3) := by decide +kernel
theorem dX2_drawnByLot_31 : decode cX2_drawnByLot 31 = .ok (.getfield 116, 3) := by decide +kernel
theorem dX2_drawnByLot_34 : decode cX2_drawnByLot 34 = .ok (.if_icmp .ge 18, 3) := by decide +kernel
theorem dX2_drawnByLot_37 : decode cX2_drawnByLot 37 = .ok (.iload_n 2, 1) := by decide +kernel
theorem dX2_drawnByLot_38 : decode cX2_drawnByLot 38 = .ok (.bipush 60, 2) := by decide +kernel
theorem dX2_drawnByLot_40 : decode cX2_drawnByLot 40 = .ok (.if_icmp .ge 12, 3) := by decide +kernel
theorem dX2_drawnByLot_43 : decode cX2_drawnByLot 43 = .ok (.aload_n 0, 1) := by decide +kernel
theorem dX2_drawnByLot_44 : decode cX2_drawnByLot 44 = .ok (.getfield 26, 3) := by decide +kernel
theorem dX2_drawnByLot_47 : decode cX2_drawnByLot 47 = .ok (.iload_n 2, 1) := by decide +kernel
theorem dX2_drawnByLot_48 : decode cX2_drawnByLot 48 = .ok (.iaload, 1) := by decide +kernel
theorem dX2_drawnByLot_49 : decode cX2_drawnByLot 49 = .ok (.goto 4, 3) := by decide +kernel
theorem dX2_drawnByLot_52 : decode cX2_drawnByLot 52 = .ok (.iconst 0, 1) := by decide +kernel
theorem dX2_drawnByLot_53 : decode cX2_drawnByLot 53 = .ok (.istore_n 3, 1) := by decide +kernel
theorem dX2_drawnByLot_54 : decode cX2_drawnByLot 54 = .ok (.aload_n 0, 1) := by decide +kernel
theorem dX2_drawnByLot_55 : decode cX2_drawnByLot 55 = .ok (.getfield 42, 3) := by decide +kernel
theorem dX2_drawnByLot_58 : decode cX2_drawnByLot 58 = .ok (.iload_n 3, 1) := by decide +kernel
theorem dX2_drawnByLot_59 : decode cX2_drawnByLot 59 = .ok (.iload_n 1, 1) := by decide +kernel
theorem dX2_drawnByLot_60 : decode cX2_drawnByLot 60 = .ok (.irem, 1) := by decide +kernel
theorem dX2_drawnByLot_61 : decode cX2_drawnByLot 61 = .ok (.i2l, 1) := by decide +kernel
theorem dX2_drawnByLot_62 : decode cX2_drawnByLot 62 = .ok (.invokevirtual 264, 3) := by decide +kernel
theorem dX2_drawnByLot_65 : decode cX2_drawnByLot 65 = .ok (.ireturn, 1) := by decide +kernel
theorem dX2_bestBidder_0 : decode cX2_bestBidder 0 = .ok (.iconst (-1), 1) := by decide +kernel
theorem dX2_bestBidder_1 : decode cX2_bestBidder 1 = .ok (.istore_n 1, 1) := by decide +kernel
theorem dX2_bestBidder_2 : decode cX2_bestBidder 2 = .ok (.ldc2_w 271, 3) := by decide +kernel
theorem dX2_bestBidder_5 : decode cX2_bestBidder 5 = .ok (.lstore_n 2, 1) := by decide +kernel
theorem dX2_bestBidder_6 : decode cX2_bestBidder 6 = .ok (.iconst 0, 1) := by decide +kernel
theorem dX2_bestBidder_7 : decode cX2_bestBidder 7 = .ok (.istore 4, 2) := by decide +kernel
theorem dX2_bestBidder_9 : decode cX2_bestBidder 9 = .ok (.iload 4, 2) := by decide +kernel
theorem dX2_bestBidder_11 : decode cX2_bestBidder 11 = .ok (.bipush 60, 2) := by decide +kernel
theorem dX2_bestBidder_13 : decode cX2_bestBidder 13 = .ok (.if_icmp .ge 48, 3) := by decide +kernel
theorem dX2_bestBidder_16 : decode cX2_bestBidder 16 = .ok (.aload_n 0, 1) := by decide +kernel
theorem dX2_bestBidder_17 : decode cX2_bestBidder 17 = .ok (.getfield 42, 3) := by decide +kernel
theorem dX2_bestBidder_20 : decode cX2_bestBidder 20 = .ok (.getfield 126, 3) := by decide +kernel
theorem dX2_bestBidder_23 : decode cX2_bestBidder 23 = .ok (.iload 4, 2) := by decide +kernel
theorem dX2_bestBidder_25 : decode cX2_bestBidder 25 = .ok (.aaload, 1) := by decide +kernel
theorem dX2_bestBidder_26 : decode cX2_bestBidder 26 = .ok (.astore 5, 2) := by decide +kernel
theorem dX2_bestBidder_28 : decode cX2_bestBidder 28 = .ok (.aload 5, 2) := by decide +kernel
theorem dX2_bestBidder_30 : decode cX2_bestBidder 30 = .ok (.invokevirtual 261, 3) := by decide +kernel
theorem dX2_bestBidder_33 : decode cX2_bestBidder 33 = .ok (.ifCond .eq 22, 3) := by decide +kernel
theorem dX2_bestBidder_36 : decode cX2_bestBidder 36 = .ok (.aload 5, 2) := by decide +kernel
theorem dX2_bestBidder_38 : decode cX2_bestBidder 38 = .ok (.getfield 199, 3) := by decide +kernel
theorem dX2_bestBidder_41 : decode cX2_bestBidder 41 = .ok (.lload_n 2, 1) := by decide +kernel
theorem dX2_bestBidder_42 : decode cX2_bestBidder 42 = .ok (.lcmp, 1) := by decide +kernel
theorem dX2_bestBidder_43 : decode cX2_bestBidder 43 = .ok (.ifCond .le 12, 3) := by decide +kernel
theorem dX2_bestBidder_46 : decode cX2_bestBidder 46 = .ok (.iload 4, 2) := by decide +kernel
theorem dX2_bestBidder_48 : decode cX2_bestBidder 48 = .ok (.istore_n 1, 1) := by decide +kernel
theorem dX2_bestBidder_49 : decode cX2_bestBidder 49 = .ok (.aload 5, 2) := by decide +kernel
theorem dX2_bestBidder_51 : decode cX2_bestBidder 51 = .ok (.getfield 199, 3) := by decide +kernel
theorem dX2_bestBidder_54 : decode cX2_bestBidder 54 = .ok (.lstore_n 2, 1) := by decide +kernel
theorem dX2_bestBidder_55 : decode cX2_bestBidder 55 = .ok (.iinc 4 1, 3) := by decide +kernel
theorem dX2_bestBidder_58 : decode cX2_bestBidder 58 = .ok (.goto (-49), 3) := by decide +kernel
theorem dX2_bestBidder_61 : decode cX2_bestBidder 61 = .ok (.iload_n 1, 1) := by decide +kernel
theorem dX2_bestBidder_62 : decode cX2_bestBidder 62 = .ok (.ireturn, 1) := by decide +kernel
theorem dX2_neediest_0 : decode cX2_neediest 0 = .ok (.aload_n 0, 1) := by decide +kernel
theorem dX2_neediest_1 : decode cX2_neediest 1 = .ok (.getfield 42, 3) := by decide +kernel
theorem dX2_neediest_4 : decode cX2_neediest 4 = .ok (.aload_n 0, 1) := by decide +kernel
theorem dX2_neediest_5 : decode cX2_neediest 5 = .ok (.getfield 42, 3) := by decide +kernel
theorem dX2_neediest_8 : decode cX2_neediest 8 = .ok (.getfield 205, 3) := by decide +kernel
theorem dX2_neediest_11 : decode cX2_neediest 11 = .ok (.invokevirtual 88, 3) := by decide +kernel
theorem dX2_neediest_14 : decode cX2_neediest 14 = .ok (.astore_n 1, 1) := by decide +kernel
theorem dX2_neediest_15 : decode cX2_neediest 15 = .ok (.aload_n 1, 1) := by decide +kernel
theorem dX2_neediest_16 : decode cX2_neediest 16 = .ok (.ifnull 33, 3) := by decide +kernel
theorem dX2_neediest_19 : decode cX2_neediest 19 = .ok (.aload_n 1, 1) := by decide +kernel
theorem dX2_neediest_20 : decode cX2_neediest 20 = .ok (.invokevirtual 261, 3) := by decide +kernel
theorem dX2_neediest_23 : decode cX2_neediest 23 = .ok (.ifCond .eq 26, 3) := by decide +kernel
theorem dX2_neediest_26 : decode cX2_neediest 26 = .ok (.iconst 2, 1) := by decide +kernel
theorem dX2_neediest_27 : decode cX2_neediest 27 = .ok (.aload_n 0, 1) := by decide +kernel
theorem dX2_neediest_28 : decode cX2_neediest 28 = .ok (.getfield 42, 3) := by decide +kernel
theorem dX2_neediest_31 : decode cX2_neediest 31 = .ok (.invokevirtual 273, 3) := by decide +kernel
theorem dX2_neediest_34 : decode cX2_neediest 34 = .ok (.imul, 1) := by decide +kernel
theorem dX2_neediest_35 : decode cX2_neediest 35 = .ok (.aload_n 0, 1) := by decide +kernel
theorem dX2_neediest_36 : decode cX2_neediest 36 = .ok (.getfield 42, 3) := by decide +kernel
theorem dX2_neediest_39 : decode cX2_neediest 39 = .ok (.invokevirtual 276, 3) := by decide +kernel
theorem dX2_neediest_42 : decode cX2_neediest 42 = .ok (.if_icmp .le 7, 3) := by decide +kernel
theorem dX2_neediest_45 : decode cX2_neediest 45 = .ok (.iconst 1, 1) := by decide +kernel
theorem dX2_neediest_46 : decode cX2_neediest 46 = .ok (.goto 4, 3) := by decide +kernel
theorem dX2_neediest_49 : decode cX2_neediest 49 = .ok (.iconst 0, 1) := by decide +kernel
theorem dX2_neediest_50 : decode cX2_neediest 50 = .ok (.istore_n 2, 1) := by decide +kernel
theorem dX2_neediest_51 : decode cX2_neediest 51 = .ok (.iload_n 2, 1) := by decide +kernel
theorem dX2_neediest_52 : decode cX2_neediest 52 = .ok (.ifCond .eq 13, 3) := by decide +kernel
theorem dX2_neediest_55 : decode cX2_neediest 55 = .ok (.aload_n 0, 1) := by decide +kernel
theorem dX2_neediest_56 : decode cX2_neediest 56 = .ok (.getfield 42, 3) := by decide +kernel
theorem dX2_neediest_59 : decode cX2_neediest 59 = .ok (.getfield 205, 3) := by decide +kernel
theorem dX2_neediest_62 : decode cX2_neediest 62 = .ok (.goto 11, 3) := by decide +kernel
theorem dX2_neediest_65 : decode cX2_neediest 65 = .ok (.aload_n 0, 1) := by decide +kernel
theorem dX2_neediest_66 : decode cX2_neediest 66 = .ok (.getfield 42, 3) := by decide +kernel
theorem dX2_neediest_69 : decode cX2_neediest 69 = .ok (.lconst 0, 1) := by decide +kernel
theorem dX2_neediest_70 : decode cX2_neediest 70 = .ok (.invokevirtual 264, 3) := by decide +kernel
theorem dX2_neediest_73 : decode cX2_neediest 73 = .ok (.ireturn, 1) := by decide +kernel
theorem dX2_handOut_0 : decode cX2_handOut 0 = .ok (.aload_n 0, 1) := by decide +kernel
theorem dX2_handOut_1 : decode cX2_handOut 1 = .ok (.getfield 42, 3) := by decide +kernel
theorem dX2_handOut_4 : decode cX2_handOut 4 = .ok (.iload_n 1, 1) := by decide +kernel
theorem dX2_handOut_5 : decode cX2_handOut 5 = .ok (.invokevirtual 88, 3) := by decide +kernel
theorem dX2_handOut_8 : decode cX2_handOut 8 = .ok (.astore 4, 2) := by decide +kernel
theorem dX2_handOut_10 : decode cX2_handOut 10 = .ok (.aload 4, 2) := by decide +kernel
theorem dX2_handOut_12 : decode cX2_handOut 12 = .ok (.ifnonnull 18, 3) := by decide +kernel
theorem dX2_handOut_15 : decode cX2_handOut 15 = .ok (.aload_n 0, 1) := by decide +kernel
theorem dX2_handOut_16 : decode cX2_handOut 16 = .ok (.getfield 42, 3) := by decide +kernel
theorem dX2_handOut_19 : decode cX2_handOut 19 = .ok (.dup, 1) := by decide +kernel
theorem dX2_handOut_20 : decode cX2_handOut 20 = .ok (.getfield 46, 3) := by decide +kernel
theorem dX2_handOut_23 : decode cX2_handOut 23 = .ok (.lload_n 2, 1) := by decide +kernel
theorem dX2_handOut_24 : decode cX2_handOut 24 = .ok (.ladd, 1) := by decide +kernel
theorem dX2_handOut_25 : decode cX2_handOut 25 = .ok (.putfield 46, 3) := by decide +kernel
theorem dX2_handOut_28 : decode cX2_handOut 28 = .ok (.lconst 0, 1) := by decide +kernel
theorem dX2_handOut_29 : decode cX2_handOut 29 = .ok (.lreturn, 1) := by decide +kernel
theorem dX2_handOut_30 : decode cX2_handOut 30 = .ok (.aload_n 0, 1) := by decide +kernel
theorem dX2_handOut_31 : decode cX2_handOut 31 = .ok (.iload_n 1, 1) := by decide +kernel
theorem dX2_handOut_32 : decode cX2_handOut 32 = .ok (.invokevirtual 279, 3) := by decide +kernel
theorem dX2_handOut_35 : decode cX2_handOut 35 = .ok (.istore 5, 2) := by decide +kernel
theorem dX2_handOut_37 : decode cX2_handOut 37 = .ok (.iload 5, 2) := by decide +kernel
theorem dX2_handOut_39 : decode cX2_handOut 39 = .ok (.ifCond .ne 7, 3) := by decide +kernel
theorem dX2_handOut_42 : decode cX2_handOut 42 = .ok (.lconst 0, 1) := by decide +kernel
theorem dX2_handOut_43 : decode cX2_handOut 43 = .ok (.goto 12, 3) := by decide +kernel
theorem dX2_handOut_46 : decode cX2_handOut 46 = .ok (.aload 4, 2) := by decide +kernel
theorem dX2_handOut_48 : decode cX2_handOut 48 = .ok (.getfield 199, 3) := by decide +kernel
theorem dX2_handOut_51 : decode cX2_handOut 51 = .ok (.lload_n 2, 1) := by decide +kernel
theorem dX2_handOut_52 : decode cX2_handOut 52 = .ok (.invokestatic 220, 3) := by decide +kernel
theorem dX2_handOut_55 : decode cX2_handOut 55 = .ok (.lstore 6, 2) := by decide +kernel
theorem dX2_handOut_57 : decode cX2_handOut 57 = .ok (.aload_n 0, 1) := by decide +kernel
theorem dX2_handOut_58 : decode cX2_handOut 58 = .ok (.iload_n 1, 1) := by decide +kernel
theorem dX2_handOut_59 : decode cX2_handOut 59 = .ok (.iload 5, 2) := by decide +kernel
theorem dX2_handOut_61 : decode cX2_handOut 61 = .ok (.lload 6, 2) := by decide +kernel
theorem dX2_handOut_63 : decode cX2_handOut 63 = .ok (.invokevirtual 283, 3) := by decide +kernel
theorem dX2_handOut_66 : decode cX2_handOut 66 = .ok (.lload_n 2, 1) := by decide +kernel
theorem dX2_handOut_67 : decode cX2_handOut 67 = .ok (.lload 6, 2) := by decide +kernel
theorem dX2_handOut_69 : decode cX2_handOut 69 = .ok (.lsub, 1) := by decide +kernel
theorem dX2_handOut_70 : decode cX2_handOut 70 = .ok (.lstore 8, 2) := by decide +kernel
theorem dX2_handOut_72 : decode cX2_handOut 72 = .ok (.aload 4, 2) := by decide +kernel
theorem dX2_handOut_74 : decode cX2_handOut 74 = .ok (.lload 8, 2) := by decide +kernel
theorem dX2_handOut_76 : decode cX2_handOut 76 = .ok (.aload_n 0, 1) := by decide +kernel
theorem dX2_handOut_77 : decode cX2_handOut 77 = .ok (.aload 4, 2) := by decide +kernel
theorem dX2_handOut_79 : decode cX2_handOut 79 = .ok (.lload 8, 2) := by decide +kernel
theorem dX2_handOut_81 : decode cX2_handOut 81 = .ok (.invokevirtual 287, 3) := by decide +kernel
theorem dX2_handOut_84 : decode cX2_handOut 84 = .ok (.lsub, 1) := by decide +kernel
theorem dX2_handOut_85 : decode cX2_handOut 85 = .ok (.putfield 290, 3) := by decide +kernel
theorem dX2_handOut_88 : decode cX2_handOut 88 = .ok (.aload 4, 2) := by decide +kernel
theorem dX2_handOut_90 : decode cX2_handOut 90 = .ok (.iconst 1, 1) := by decide +kernel
theorem dX2_handOut_91 : decode cX2_handOut 91 = .ok (.putfield 208, 3) := by decide +kernel
theorem dX2_handOut_94 : decode cX2_handOut 94 = .ok (.lload 6, 2) := by decide +kernel
theorem dX2_handOut_96 : decode cX2_handOut 96 = .ok (.lreturn, 1) := by decide +kernel
theorem dX2_countOthers_0 : decode cX2_countOthers 0 = .ok (.iconst 0, 1) := by decide +kernel
theorem dX2_countOthers_1 : decode cX2_countOthers 1 = .ok (.istore_n 2, 1) := by decide +kernel
theorem dX2_countOthers_2 : decode cX2_countOthers 2 = .ok (.iconst 0, 1) := by decide +kernel
theorem dX2_countOthers_3 : decode cX2_countOthers 3 = .ok (.istore_n 3, 1) := by decide +kernel
theorem dX2_countOthers_4 : decode cX2_countOthers 4 = .ok (.iload_n 3, 1) := by decide +kernel
theorem dX2_countOthers_5 : decode cX2_countOthers 5 = .ok (.bipush 60, 2) := by decide +kernel
theorem dX2_countOthers_7 : decode cX2_countOthers 7 = .ok (.if_icmp .ge 37, 3) := by decide +kernel
theorem dX2_countOthers_10 : decode cX2_countOthers 10 = .ok (.iload_n 2, 1) := by decide +kernel
theorem dX2_countOthers_11 : decode cX2_countOthers 11 = .ok (.iload_n 3, 1) := by decide +kernel
theorem dX2_countOthers_12 : decode cX2_countOthers 12 = .ok (.iload_n 1, 1) := by decide +kernel
theorem dX2_countOthers_13 : decode cX2_countOthers 13 = .ok (.if_icmp .eq 22, 3) := by decide +kernel
theorem dX2_countOthers_16 : decode cX2_countOthers 16 = .ok (.aload_n 0, 1) := by decide +kernel
theorem dX2_countOthers_17 : decode cX2_countOthers 17 = .ok (.getfield 42, 3) := by decide +kernel
theorem dX2_countOthers_20 : decode cX2_countOthers 20 = .ok (.getfield 126, 3) := by decide +kernel
theorem dX2_countOthers_23 : decode cX2_countOthers 23 = .ok (.iload_n 3, 1) := by decide +kernel
theorem dX2_countOthers_24 : decode cX2_countOthers 24 = .ok (.aaload, 1) := by decide +kernel
theorem dX2_countOthers_25 : decode cX2_countOthers 25 = .ok (.invokevirtual 239, 3) := by decide +kernel
theorem dX2_countOthers_28 : decode cX2_countOthers 28 = .ok (.ifCond .eq 7, 3) := by decide +kernel
theorem dX2_countOthers_31 : decode cX2_countOthers 31 = .ok (.iconst 1, 1) := by decide +kernel
theorem dX2_countOthers_32 : decode cX2_countOthers 32 = .ok (.goto 4, 3) := by decide +kernel
theorem dX2_countOthers_35 : decode cX2_countOthers 35 = .ok (.iconst 0, 1) := by decide +kernel
theorem dX2_countOthers_36 : decode cX2_countOthers 36 = .ok (.iadd, 1) := by decide +kernel
theorem dX2_countOthers_37 : decode cX2_countOthers 37 = .ok (.istore_n 2, 1) := by decide +kernel
theorem dX2_countOthers_38 : decode cX2_countOthers 38 = .ok (.iinc 3 1, 3) := by decide +kernel
theorem dX2_countOthers_41 : decode cX2_countOthers 41 = .ok (.goto (-37), 3) := by decide +kernel
theorem dX2_countOthers_44 : decode cX2_countOthers 44 = .ok (.iload_n 2, 1) := by decide +kernel
theorem dX2_countOthers_45 : decode cX2_countOthers 45 = .ok (.ireturn, 1) := by decide +kernel
theorem dX2_shareBid_0 : decode cX2_shareBid 0 = .ok (.iload_n 2, 1) := by decide +kernel
theorem dX2_shareBid_1 : decode cX2_shareBid 1 = .ok (.ifCond .gt 4, 3) := by decide +kernel
theorem dX2_shareBid_4 : decode cX2_shareBid 4 = .ok (.return_, 1) := by decide +kernel
theorem dX2_shareBid_5 : decode cX2_shareBid 5 = .ok (.lload_n 3, 1) := by decide +kernel
theorem dX2_shareBid_6 : decode cX2_shareBid 6 = .ok (.iload_n 2, 1) := by decide +kernel
theorem dX2_shareBid_7 : decode cX2_shareBid 7 = .ok (.i2l, 1) := by decide +kernel
theorem dX2_shareBid_8 : decode cX2_shareBid 8 = .ok (.ldiv, 1) := by decide +kernel
theorem dX2_shareBid_9 : decode cX2_shareBid 9 = .ok (.lstore 5, 2) := by decide +kernel
theorem dX2_shareBid_11 : decode cX2_shareBid 11 = .ok (.iconst 0, 1) := by decide +kernel
theorem dX2_shareBid_12 : decode cX2_shareBid 12 = .ok (.istore 7, 2) := by decide +kernel
theorem dX2_shareBid_14 : decode cX2_shareBid 14 = .ok (.iload 7, 2) := by decide +kernel
theorem dX2_shareBid_16 : decode cX2_shareBid 16 = .ok (.bipush 60, 2) := by decide +kernel
theorem dX2_shareBid_18 : decode cX2_shareBid 18 = .ok (.if_icmp .ge 47, 3) := by decide +kernel
theorem dX2_shareBid_21 : decode cX2_shareBid 21 = .ok (.aload_n 0, 1) := by decide +kernel
theorem dX2_shareBid_22 : decode cX2_shareBid 22 = .ok (.getfield 42, 3) := by decide +kernel
theorem dX2_shareBid_25 : decode cX2_shareBid 25 = .ok (.getfield 126, 3) := by decide +kernel
theorem dX2_shareBid_28 : decode cX2_shareBid 28 = .ok (.iload 7, 2) := by decide +kernel
theorem dX2_shareBid_30 : decode cX2_shareBid 30 = .ok (.aaload, 1) := by decide +kernel
theorem dX2_shareBid_31 : decode cX2_shareBid 31 = .ok (.astore 8, 2) := by decide +kernel
theorem dX2_shareBid_33 : decode cX2_shareBid 33 = .ok (.iload 7, 2) := by decide +kernel
theorem dX2_shareBid_35 : decode cX2_shareBid 35 = .ok (.iload_n 1, 1) := by decide +kernel
theorem dX2_shareBid_36 : decode cX2_shareBid 36 = .ok (.if_icmp .eq 23, 3) := by decide +kernel
theorem dX2_shareBid_39 : decode cX2_shareBid 39 = .ok (.aload 8, 2) := by decide +kernel
theorem dX2_shareBid_41 : decode cX2_shareBid 41 = .ok (.invokevirtual 239, 3) := by decide +kernel
theorem dX2_shareBid_44 : decode cX2_shareBid 44 = .ok (.ifCond .eq 15, 3) := by decide +kernel
theorem dX2_shareBid_47 : decode cX2_shareBid 47 = .ok (.aload 8, 2) := by decide +kernel
theorem dX2_shareBid_49 : decode cX2_shareBid 49 = .ok (.dup, 1) := by decide +kernel
theorem dX2_shareBid_50 : decode cX2_shareBid 50 = .ok (.getfield 293, 3) := by decide +kernel
theorem dX2_shareBid_53 : decode cX2_shareBid 53 = .ok (.lload 5, 2) := by decide +kernel
theorem dX2_shareBid_55 : decode cX2_shareBid 55 = .ok (.ladd, 1) := by decide +kernel
theorem dX2_shareBid_56 : decode cX2_shareBid 56 = .ok (.putfield 293, 3) := by decide +kernel
theorem dX2_shareBid_59 : decode cX2_shareBid 59 = .ok (.iinc 7 1, 3) := by decide +kernel
theorem dX2_shareBid_62 : decode cX2_shareBid 62 = .ok (.goto (-48), 3) := by decide +kernel
theorem dX2_shareBid_65 : decode cX2_shareBid 65 = .ok (.aload_n 0, 1) := by decide +kernel
theorem dX2_shareBid_66 : decode cX2_shareBid 66 = .ok (.iload_n 1, 1) := by decide +kernel
theorem dX2_shareBid_67 : decode cX2_shareBid 67 = .ok (.lload_n 3, 1) := by decide +kernel
theorem dX2_shareBid_68 : decode cX2_shareBid 68 = .ok (.lload 5, 2) := by decide +kernel
theorem dX2_shareBid_70 : decode cX2_shareBid 70 = .ok (.iload_n 2, 1) := by decide +kernel
theorem dX2_shareBid_71 : decode cX2_shareBid 71 = .ok (.i2l, 1) := by decide +kernel
theorem dX2_shareBid_72 : decode cX2_shareBid 72 = .ok (.lmul, 1) := by decide +kernel
theorem dX2_shareBid_73 : decode cX2_shareBid 73 = .ok (.lsub, 1) := by decide +kernel
theorem dX2_shareBid_74 : decode cX2_shareBid 74 = .ok (.iconst 1, 1) := by decide +kernel
theorem dX2_shareBid_75 : decode cX2_shareBid 75 = .ok (.invokevirtual 296, 3) := by decide +kernel
theorem dX2_shareBid_78 : decode cX2_shareBid 78 = .ok (.lstore 7, 2) := by decide +kernel
theorem dX2_shareBid_80 : decode cX2_shareBid 80 = .ok (.aload_n 0, 1) := by decide +kernel
theorem dX2_shareBid_81 : decode cX2_shareBid 81 = .ok (.iload_n 1, 1) := by decide +kernel
theorem dX2_shareBid_82 : decode cX2_shareBid 82 = .ok (.lload 7, 2) := by decide +kernel
theorem dX2_shareBid_84 : decode cX2_shareBid 84 = .ok (.iconst 0, 1) := by decide +kernel
theorem dX2_shareBid_85 : decode cX2_shareBid 85 = .ok (.invokevirtual 296, 3) := by decide +kernel
theorem dX2_shareBid_88 : decode cX2_shareBid 88 = .ok (.pop2, 1) := by decide +kernel
theorem dX2_shareBid_89 : decode cX2_shareBid 89 = .ok (.return_, 1) := by decide +kernel
theorem dX2_shareSingly_0 : decode cX2_shareSingly 0 = .ok (.lload_n 2, 1) := by decide +kernel
theorem dX2_shareSingly_1 : decode cX2_shareSingly 1 = .ok (.lstore 5, 2) := by decide +kernel
theorem dX2_shareSingly_3 : decode cX2_shareSingly 3 = .ok (.iconst 0, 1) := by decide +kernel
theorem dX2_shareSingly_4 : decode cX2_shareSingly 4 = .ok (.istore 7, 2) := by decide +kernel
theorem dX2_shareSingly_6 : decode cX2_shareSingly 6 = .ok (.iload 7, 2) := by decide +kernel
theorem dX2_shareSingly_8 : decode cX2_shareSingly 8 = .ok (.bipush 60, 2) := by decide +kernel
theorem dX2_shareSingly_10 : decode cX2_shareSingly 10 = .ok (.if_icmp .ge 69, 3) := by decide +kernel
theorem dX2_shareSingly_13 : decode cX2_shareSingly 13 = .ok (.lload 5, 2) := by decide +kernel
theorem dX2_shareSingly_15 : decode cX2_shareSingly 15 = .ok (.lconst 0, 1) := by decide +kernel
theorem dX2_shareSingly_16 : decode cX2_shareSingly 16 = .ok (.lcmp, 1) := by decide +kernel
theorem dX2_shareSingly_17 : decode cX2_shareSingly 17 = .ok (.ifCond .le 62, 3) := by decide +kernel
theorem dX2_shareSingly_20 : decode cX2_shareSingly 20 = .ok (.aload_n 0, 1) := by decide +kernel
theorem dX2_shareSingly_21 : decode cX2_shareSingly 21 = .ok (.getfield 42, 3) := by decide +kernel
theorem dX2_shareSingly_24 : decode cX2_shareSingly 24 = .ok (.getfield 126, 3) := by decide +kernel
theorem dX2_shareSingly_27 : decode cX2_shareSingly 27 = .ok (.iload 7, 2) := by decide +kernel
theorem dX2_shareSingly_29 : decode cX2_shareSingly 29 = .ok (.aaload, 1) := by decide +kernel
theorem dX2_shareSingly_30 : decode cX2_shareSingly 30 = .ok (.astore 8, 2) := by decide +kernel
theorem dX2_shareSingly_32 : decode cX2_shareSingly 32 = .ok (.iload 7, 2) := by decide +kernel
theorem dX2_shareSingly_34 : decode cX2_shareSingly 34 = .ok (.iload_n 1, 1) := by decide +kernel
theorem dX2_shareSingly_35 : decode cX2_shareSingly 35 = .ok (.if_icmp .eq 38, 3) := by decide +kernel
theorem dX2_shareSingly_38 : decode cX2_shareSingly 38 = .ok (.aload 8, 2) := by decide +kernel
theorem dX2_shareSingly_40 : decode cX2_shareSingly 40 = .ok (.invokevirtual 239, 3) := by decide +kernel
theorem dX2_shareSingly_43 : decode cX2_shareSingly 43 = .ok (.ifCond .eq 30, 3) := by decide +kernel
theorem dX2_shareSingly_46 : decode cX2_shareSingly 46 = .ok (.aload 8, 2) := by decide +kernel
theorem dX2_shareSingly_48 : decode cX2_shareSingly 48 = .ok (.invokevirtual 300, 3) := by decide +kernel
theorem dX2_shareSingly_51 : decode cX2_shareSingly 51 = .ok (.iload 4, 2) := by decide +kernel
theorem dX2_shareSingly_53 : decode cX2_shareSingly 53 = .ok (.if_icmp .ne 20, 3) := by decide +kernel
theorem dX2_shareSingly_56 : decode cX2_shareSingly 56 = .ok (.aload 8, 2) := by decide +kernel
theorem dX2_shareSingly_58 : decode cX2_shareSingly 58 = .ok (.dup, 1) := by decide +kernel
theorem dX2_shareSingly_59 : decode cX2_shareSingly 59 = .ok (.getfield 293, 3) := by decide +kernel
theorem dX2_shareSingly_62 : decode cX2_shareSingly 62 = .ok (.lconst 1, 1) := by decide +kernel
theorem dX2_shareSingly_63 : decode cX2_shareSingly 63 = .ok (.ladd, 1) := by decide +kernel
theorem dX2_shareSingly_64 : decode cX2_shareSingly 64 = .ok (.putfield 293, 3) := by decide +kernel
theorem dX2_shareSingly_67 : decode cX2_shareSingly 67 = .ok (.lload 5, 2) := by decide +kernel
theorem dX2_shareSingly_69 : decode cX2_shareSingly 69 = .ok (.lconst 1, 1) := by decide +kernel
theorem dX2_shareSingly_70 : decode cX2_shareSingly 70 = .ok (.lsub, 1) := by decide +kernel
theorem dX2_shareSingly_71 : decode cX2_shareSingly 71 = .ok (.lstore 5, 2) := by decide +kernel
theorem dX2_shareSingly_73 : decode cX2_shareSingly 73 = .ok (.iinc 7 1, 3) := by decide +kernel
theorem dX2_shareSingly_76 : decode cX2_shareSingly 76 = .ok (.goto (-70), 3) := by decide +kernel
theorem dX2_shareSingly_79 : decode cX2_shareSingly 79 = .ok (.lload 5, 2) := by decide +kernel
theorem dX2_shareSingly_81 : decode cX2_shareSingly 81 = .ok (.lreturn, 1) := by decide +kernel
theorem dX2_repayClaim_0 : decode cX2_repayClaim 0 = .ok (.aload_n 0, 1) := by decide +kernel
theorem dX2_repayClaim_1 : decode cX2_repayClaim 1 = .ok (.getfield 42, 3) := by decide +kernel
theorem dX2_repayClaim_4 : decode cX2_repayClaim 4 = .ok (.aload_n 1, 1) := by decide +kernel
theorem dX2_repayClaim_5 : decode cX2_repayClaim 5 = .ok (.getfield 109, 3) := by decide +kernel
theorem dX2_repayClaim_8 : decode cX2_repayClaim 8 = .ok (.invokevirtual 88, 3) := by decide +kernel
theorem dX2_repayClaim_11 : decode cX2_repayClaim 11 = .ok (.astore 4, 2) := by decide +kernel
theorem dX2_repayClaim_13 : decode cX2_repayClaim 13 = .ok (.aload 4, 2) := by decide +kernel
theorem dX2_repayClaim_15 : decode cX2_repayClaim 15 = .ok (.ifnonnull 5, 3) := by decide +kernel
theorem dX2_repayClaim_18 : decode cX2_repayClaim 18 = .ok (.lconst 0, 1) := by decide +kernel
theorem dX2_repayClaim_19 : decode cX2_repayClaim 19 = .ok (.lreturn, 1) := by decide +kernel
theorem dX2_repayClaim_20 : decode cX2_repayClaim 20 = .ok (.aload_n 1, 1) := by decide +kernel
theorem dX2_repayClaim_21 : decode cX2_repayClaim 21 = .ok (.getfield 246, 3) := by decide +kernel
theorem dX2_repayClaim_24 : decode cX2_repayClaim 24 = .ok (.lload_n 2, 1) := by decide +kernel
theorem dX2_repayClaim_25 : decode cX2_repayClaim 25 = .ok (.invokestatic 220, 3) := by decide +kernel
theorem dX2_repayClaim_28 : decode cX2_repayClaim 28 = .ok (.lstore 5, 2) := by decide +kernel
theorem dX2_repayClaim_30 : decode cX2_repayClaim 30 = .ok (.aload 4, 2) := by decide +kernel
theorem dX2_repayClaim_32 : decode cX2_repayClaim 32 = .ok (.dup, 1) := by decide +kernel
theorem dX2_repayClaim_33 : decode cX2_repayClaim 33 = .ok (.getfield 145, 3) := by decide +kernel
theorem dX2_repayClaim_36 : decode cX2_repayClaim 36 = .ok (.lload 5, 2) := by decide +kernel
theorem dX2_repayClaim_38 : decode cX2_repayClaim 38 = .ok (.ladd, 1) := by decide +kernel
theorem dX2_repayClaim_39 : decode cX2_repayClaim 39 = .ok (.putfield 145, 3) := by decide +kernel
theorem dX2_repayClaim_42 : decode cX2_repayClaim 42 = .ok (.aload_n 1, 1) := by decide +kernel
theorem dX2_repayClaim_43 : decode cX2_repayClaim 43 = .ok (.dup, 1) := by decide +kernel
theorem dX2_repayClaim_44 : decode cX2_repayClaim 44 = .ok (.getfield 246, 3) := by decide +kernel
theorem dX2_repayClaim_47 : decode cX2_repayClaim 47 = .ok (.lload 5, 2) := by decide +kernel
theorem dX2_repayClaim_49 : decode cX2_repayClaim 49 = .ok (.lsub, 1) := by decide +kernel
theorem dX2_repayClaim_50 : decode cX2_repayClaim 50 = .ok (.putfield 246, 3) := by decide +kernel
theorem dX2_repayClaim_53 : decode cX2_repayClaim 53 = .ok (.lload 5, 2) := by decide +kernel
theorem dX2_repayClaim_55 : decode cX2_repayClaim 55 = .ok (.lreturn, 1) := by decide +kernel
theorem dX2_keptOf_0 : decode cX2_keptOf 0 = .ok (.iload_n 1, 1) := by decide +kernel
theorem dX2_keptOf_1 : decode cX2_keptOf 1 = .ok (.ifCond .lt 36, 3) := by decide +kernel
theorem dX2_keptOf_4 : decode cX2_keptOf 4 = .ok (.iload_n 1, 1) := by decide +kernel
theorem dX2_keptOf_5 : decode cX2_keptOf 5 = .ok (.aload_n 0, 1) := by decide +kernel
theorem dX2_keptOf_6 : decode cX2_keptOf 6 = .ok (.getfield 42, 3) := by decide +kernel
theorem dX2_keptOf_9 : decode cX2_keptOf 9 = .ok (.getfield 76, 3) := by decide +kernel
theorem dX2_keptOf_12 : decode cX2_keptOf 12 = .ok (.if_icmp .ge 25, 3) := by decide +kernel
theorem dX2_keptOf_15 : decode cX2_keptOf 15 = .ok (.iload_n 1, 1) := by decide +kernel
theorem dX2_keptOf_16 : decode cX2_keptOf 16 = .ok (.bipush 60, 2) := by decide +kernel
theorem dX2_keptOf_18 : decode cX2_keptOf 18 = .ok (.if_icmp .ge 19, 3) := by decide +kernel
theorem dX2_keptOf_21 : decode cX2_keptOf 21 = .ok (.iload_n 2, 1) := by decide +kernel
theorem dX2_keptOf_22 : decode cX2_keptOf 22 = .ok (.i2l, 1) := by decide +kernel
theorem dX2_keptOf_23 : decode cX2_keptOf 23 = .ok (.lconst 0, 1) := by decide +kernel
theorem dX2_keptOf_24 : decode cX2_keptOf 24 = .ok (.ldc2_w 303, 3) := by decide +kernel
theorem dX2_keptOf_27 : decode cX2_keptOf 27 = .ok (.invokestatic 94, 3) := by decide +kernel
theorem dX2_keptOf_30 : decode cX2_keptOf 30 = .ok (.ifCond .eq 7, 3) := by decide +kernel
theorem dX2_keptOf_33 : decode cX2_keptOf 33 = .ok (.iconst 1, 1) := by decide +kernel
theorem dX2_keptOf_34 : decode cX2_keptOf 34 = .ok (.goto 4, 3) := by decide +kernel
theorem dX2_keptOf_37 : decode cX2_keptOf 37 = .ok (.iconst 0, 1) := by decide +kernel
theorem dX2_keptOf_38 : decode cX2_keptOf 38 = .ok (.istore_n 3, 1) := by decide +kernel
theorem dX2_keptOf_39 : decode cX2_keptOf 39 = .ok (.iload_n 3, 1) := by decide +kernel
theorem dX2_keptOf_40 : decode cX2_keptOf 40 = .ok (.ifCond .eq 16, 3) := by decide +kernel
theorem dX2_keptOf_43 : decode cX2_keptOf 43 = .ok (.aload_n 0, 1) := by decide +kernel
theorem dX2_keptOf_44 : decode cX2_keptOf 44 = .ok (.getfield 29, 3) := by decide +kernel
theorem dX2_keptOf_47 : decode cX2_keptOf 47 = .ok (.iload_n 1, 1) := by decide +kernel
theorem dX2_keptOf_48 : decode cX2_keptOf 48 = .ok (.iconst 4, 1) := by decide +kernel
theorem dX2_keptOf_49 : decode cX2_keptOf 49 = .ok (.imul, 1) := by decide +kernel
theorem dX2_keptOf_50 : decode cX2_keptOf 50 = .ok (.iload_n 2, 1) := by decide +kernel
theorem dX2_keptOf_51 : decode cX2_keptOf 51 = .ok (.iadd, 1) := by decide +kernel
theorem dX2_keptOf_52 : decode cX2_keptOf 52 = .ok (.laload, 1) := by decide +kernel
theorem dX2_keptOf_53 : decode cX2_keptOf 53 = .ok (.goto 6, 3) := by decide +kernel
theorem dX2_keptOf_56 : decode cX2_keptOf 56 = .ok (.ldc2_w 271, 3) := by decide +kernel
theorem dX2_keptOf_59 : decode cX2_keptOf 59 = .ok (.lreturn, 1) := by decide +kernel
theorem dX2_stopPlace_0 : decode cX2_stopPlace 0 = .ok (.aload_n 0, 1) := by decide +kernel
theorem dX2_stopPlace_1 : decode cX2_stopPlace 1 = .ok (.getfield 42, 3) := by decide +kernel
theorem dX2_stopPlace_4 : decode cX2_stopPlace 4 = .ok (.getfield 85, 3) := by decide +kernel
theorem dX2_stopPlace_7 : decode cX2_stopPlace 7 = .ok (.iconst 1, 1) := by decide +kernel
theorem dX2_stopPlace_8 : decode cX2_stopPlace 8 = .ok (.if_icmp .eq 5, 3) := by decide +kernel
theorem dX2_stopPlace_11 : decode cX2_stopPlace 11 = .ok (.iconst 2, 1) := by decide +kernel
theorem dX2_stopPlace_12 : decode cX2_stopPlace 12 = .ok (.ireturn, 1) := by decide +kernel
theorem dX2_stopPlace_13 : decode cX2_stopPlace 13 = .ok (.aload_n 0, 1) := by decide +kernel
theorem dX2_stopPlace_14 : decode cX2_stopPlace 14 = .ok (.getfield 42, 3) := by decide +kernel
theorem dX2_stopPlace_17 : decode cX2_stopPlace 17 = .ok (.iload_n 1, 1) := by decide +kernel
theorem dX2_stopPlace_18 : decode cX2_stopPlace 18 = .ok (.invokevirtual 138, 3) := by decide +kernel
theorem dX2_stopPlace_21 : decode cX2_stopPlace 21 = .ok (.astore_n 2, 1) := by decide +kernel
theorem dX2_stopPlace_22 : decode cX2_stopPlace 22 = .ok (.aload_n 2, 1) := by decide +kernel
theorem dX2_stopPlace_23 : decode cX2_stopPlace 23 = .ok (.ifnonnull 5, 3) := by decide +kernel
theorem dX2_stopPlace_26 : decode cX2_stopPlace 26 = .ok (.iconst 3, 1) := by decide +kernel
theorem dX2_stopPlace_27 : decode cX2_stopPlace 27 = .ok (.ireturn, 1) := by decide +kernel
theorem dX2_stopPlace_28 : decode cX2_stopPlace 28 = .ok (.aload_n 2, 1) := by decide +kernel
theorem dX2_stopPlace_29 : decode cX2_stopPlace 29 = .ok (.getfield 141, 3) := by decide +kernel
theorem dX2_stopPlace_32 : decode cX2_stopPlace 32 = .ok (.ifCond .eq 6, 3) := by decide +kernel
theorem dX2_stopPlace_35 : decode cX2_stopPlace 35 = .ok (.bipush 10, 2) := by decide +kernel
theorem dX2_stopPlace_37 : decode cX2_stopPlace 37 = .ok (.ireturn, 1) := by decide +kernel
theorem dX2_stopPlace_38 : decode cX2_stopPlace 38 = .ok (.aload_n 0, 1) := by decide +kernel
theorem dX2_stopPlace_39 : decode cX2_stopPlace 39 = .ok (.getfield 42, 3) := by decide +kernel
theorem dX2_stopPlace_42 : decode cX2_stopPlace 42 = .ok (.getfield 65, 3) := by decide +kernel
theorem dX2_stopPlace_45 : decode cX2_stopPlace 45 = .ok (.sipush 512, 3) := by decide +kernel
theorem dX2_stopPlace_48 : decode cX2_stopPlace 48 = .ok (.if_icmp .lt 6, 3) := by decide +kernel
theorem dX2_stopPlace_51 : decode cX2_stopPlace 51 = .ok (.bipush 9, 2) := by decide +kernel
theorem dX2_stopPlace_53 : decode cX2_stopPlace 53 = .ok (.ireturn, 1) := by decide +kernel
theorem dX2_stopPlace_54 : decode cX2_stopPlace 54 = .ok (.aload_n 2, 1) := by decide +kernel
theorem dX2_stopPlace_55 : decode cX2_stopPlace 55 = .ok (.invokevirtual 305, 3) := by decide +kernel
theorem dX2_stopPlace_58 : decode cX2_stopPlace 58 = .ok (.aload_n 2, 1) := by decide +kernel
theorem dX2_stopPlace_59 : decode cX2_stopPlace 59 = .ok (.lconst 0, 1) := by decide +kernel
theorem dX2_stopPlace_60 : decode cX2_stopPlace 60 = .ok (.putfield 199, 3) := by decide +kernel
theorem dX2_stopPlace_63 : decode cX2_stopPlace 63 = .ok (.aload_n 2, 1) := by decide +kernel
theorem dX2_stopPlace_64 : decode cX2_stopPlace 64 = .ok (.iconst 0, 1) := by decide +kernel
theorem dX2_stopPlace_65 : decode cX2_stopPlace 65 = .ok (.putfield 211, 3) := by decide +kernel
theorem dX2_stopPlace_68 : decode cX2_stopPlace 68 = .ok (.aload_n 0, 1) := by decide +kernel
theorem dX2_stopPlace_69 : decode cX2_stopPlace 69 = .ok (.getfield 42, 3) := by decide +kernel
theorem dX2_stopPlace_72 : decode cX2_stopPlace 72 = .ok (.getfield 205, 3) := by decide +kernel
theorem dX2_stopPlace_75 : decode cX2_stopPlace 75 = .ok (.iload_n 1, 1) := by decide +kernel
theorem dX2_stopPlace_76 : decode cX2_stopPlace 76 = .ok (.if_icmp .ne 11, 3) := by decide +kernel
theorem dX2_stopPlace_79 : decode cX2_stopPlace 79 = .ok (.aload_n 0, 1) := by decide +kernel
theorem dX2_stopPlace_80 : decode cX2_stopPlace 80 = .ok (.getfield 42, 3) := by decide +kernel
theorem dX2_stopPlace_83 : decode cX2_stopPlace 83 = .ok (.iconst (-1), 1) := by decide +kernel
theorem dX2_stopPlace_84 : decode cX2_stopPlace 84 = .ok (.putfield 205, 3) := by decide +kernel
theorem dX2_stopPlace_87 : decode cX2_stopPlace 87 = .ok (.aload_n 0, 1) := by decide +kernel
theorem dX2_stopPlace_88 : decode cX2_stopPlace 88 = .ok (.iload_n 1, 1) := by decide +kernel
theorem dX2_stopPlace_89 : decode cX2_stopPlace 89 = .ok (.aload_n 2, 1) := by decide +kernel
theorem dX2_stopPlace_90 : decode cX2_stopPlace 90 = .ok (.invokevirtual 308, 3) := by decide +kernel
theorem dX2_stopPlace_93 : decode cX2_stopPlace 93 = .ok (.aload_n 2, 1) := by decide +kernel
theorem dX2_stopPlace_94 : decode cX2_stopPlace 94 = .ok (.iconst 1, 1) := by decide +kernel
theorem dX2_stopPlace_95 : decode cX2_stopPlace 95 = .ok (.putfield 141, 3) := by decide +kernel
theorem dX2_stopPlace_98 : decode cX2_stopPlace 98 = .ok (.aload_n 2, 1) := by decide +kernel
theorem dX2_stopPlace_99 : decode cX2_stopPlace 99 = .ok (.iconst 0, 1) := by decide +kernel
theorem dX2_stopPlace_100 : decode cX2_stopPlace 100 = .ok (.putfield 134, 3) := by decide +kernel
theorem dX2_stopPlace_103 : decode cX2_stopPlace 103 = .ok (.aload_n 2, 1) := by decide +kernel
theorem dX2_stopPlace_104 : decode cX2_stopPlace 104 = .ok (.lconst 0, 1) := by decide +kernel
theorem dX2_stopPlace_105 : decode cX2_stopPlace 105 = .ok (.putfield 185, 3) := by decide +kernel
theorem dX2_stopPlace_108 : decode cX2_stopPlace 108 = .ok (.aload_n 2, 1) := by decide +kernel
theorem dX2_stopPlace_109 : decode cX2_stopPlace 109 = .ok (.invokevirtual 312, 3) := by decide +kernel
theorem dX2_stopPlace_112 : decode cX2_stopPlace 112 = .ok (.iconst 0, 1) := by decide +kernel
theorem dX2_stopPlace_113 : decode cX2_stopPlace 113 = .ok (.ireturn, 1) := by decide +kernel
theorem dX2_keepStop_0 : decode cX2_keepStop 0 = .ok (.aload_n 0, 1) := by decide +kernel
theorem dX2_keepStop_1 : decode cX2_keepStop 1 = .ok (.getfield 42, 3) := by decide +kernel
theorem dX2_keepStop_4 : decode cX2_keepStop 4 = .ok (.getfield 65, 3) := by decide +kernel
theorem dX2_keepStop_7 : decode cX2_keepStop 7 = .ok (.istore_n 3, 1) := by decide +kernel
theorem dX2_keepStop_8 : decode cX2_keepStop 8 = .ok (.iload_n 3, 1) := by decide +kernel
theorem dX2_keepStop_9 : decode cX2_keepStop 9 = .ok (.ifCond .lt 10, 3) := by decide +kernel
theorem dX2_keepStop_12 : decode cX2_keepStop 12 = .ok (.iload_n 3, 1) := by decide +kernel
theorem dX2_keepStop_13 : decode cX2_keepStop 13 = .ok (.sipush 512, 3) := by decide +kernel
theorem dX2_keepStop_16 : decode cX2_keepStop 16 = .ok (.if_icmp .lt 4, 3) := by decide +kernel
theorem dX2_keepStop_19 : decode cX2_keepStop 19 = .ok (.return_, 1) := by decide +kernel
theorem dX2_keepStop_20 : decode cX2_keepStop 20 = .ok (.aload_n 0, 1) := by decide +kernel
theorem dX2_keepStop_21 : decode cX2_keepStop 21 = .ok (.getfield 35, 3) := by decide +kernel
theorem dX2_keepStop_24 : decode cX2_keepStop 24 = .ok (.iload_n 3, 1) := by decide +kernel
theorem dX2_keepStop_25 : decode cX2_keepStop 25 = .ok (.aaload, 1) := by decide +kernel
theorem dX2_keepStop_26 : decode cX2_keepStop 26 = .ok (.ifnonnull 13, 3) := by decide +kernel
theorem dX2_keepStop_29 : decode cX2_keepStop 29 = .ok (.new 33, 3) := by decide +kernel
theorem dX2_keepStop_32 : decode cX2_keepStop 32 = .ok (.dup, 1) := by decide +kernel
theorem dX2_keepStop_33 : decode cX2_keepStop 33 = .ok (.invokespecial 68, 3) := by decide +kernel
theorem dX2_keepStop_36 : decode cX2_keepStop 36 = .ok (.goto 9, 3) := by decide +kernel
theorem dX2_keepStop_39 : decode cX2_keepStop 39 = .ok (.aload_n 0, 1) := by decide +kernel
theorem dX2_keepStop_40 : decode cX2_keepStop 40 = .ok (.getfield 35, 3) := by decide +kernel
theorem dX2_keepStop_43 : decode cX2_keepStop 43 = .ok (.iload_n 3, 1) := by decide +kernel
theorem dX2_keepStop_44 : decode cX2_keepStop 44 = .ok (.aaload, 1) := by decide +kernel
theorem dX2_keepStop_45 : decode cX2_keepStop 45 = .ok (.astore 4, 2) := by decide +kernel
theorem dX2_keepStop_47 : decode cX2_keepStop 47 = .ok (.aload 4, 2) := by decide +kernel
theorem dX2_keepStop_49 : decode cX2_keepStop 49 = .ok (.iload_n 1, 1) := by decide +kernel
theorem dX2_keepStop_50 : decode cX2_keepStop 50 = .ok (.putfield 315, 3) := by decide +kernel
theorem dX2_keepStop_53 : decode cX2_keepStop 53 = .ok (.aload 4, 2) := by decide +kernel
theorem dX2_keepStop_55 : decode cX2_keepStop 55 = .ok (.aload_n 0, 1) := by decide +kernel
theorem dX2_keepStop_56 : decode cX2_keepStop 56 = .ok (.getfield 42, 3) := by decide +kernel
theorem dX2_keepStop_59 : decode cX2_keepStop 59 = .ok (.getfield 76, 3) := by decide +kernel
theorem dX2_keepStop_62 : decode cX2_keepStop 62 = .ok (.putfield 318, 3) := by decide +kernel
theorem dX2_keepStop_65 : decode cX2_keepStop 65 = .ok (.aload 4, 2) := by decide +kernel
theorem dX2_keepStop_67 : decode cX2_keepStop 67 = .ok (.aload_n 2, 1) := by decide +kernel
theorem dX2_keepStop_68 : decode cX2_keepStop 68 = .ok (.getfield 208, 3) := by decide +kernel
theorem dX2_keepStop_71 : decode cX2_keepStop 71 = .ok (.ifCond .eq 7, 3) := by decide +kernel
theorem dX2_keepStop_74 : decode cX2_keepStop 74 = .ok (.lconst 0, 1) := by decide +kernel
theorem dX2_keepStop_75 : decode cX2_keepStop 75 = .ok (.goto 16, 3) := by decide +kernel
theorem dX2_keepStop_78 : decode cX2_keepStop 78 = .ok (.lconst 0, 1) := by decide +kernel
theorem dX2_keepStop_79 : decode cX2_keepStop 79 = .ok (.aload_n 2, 1) := by decide +kernel
theorem dX2_keepStop_80 : decode cX2_keepStop 80 = .ok (.getfield 182, 3) := by decide +kernel
theorem dX2_keepStop_83 : decode cX2_keepStop 83 = .ok (.aload_n 0, 1) := by decide +kernel
theorem dX2_keepStop_84 : decode cX2_keepStop 84 = .ok (.getfield 19, 3) := by decide +kernel
theorem dX2_keepStop_87 : decode cX2_keepStop 87 = .ok (.lsub, 1) := by decide +kernel
theorem dX2_keepStop_88 : decode cX2_keepStop 88 = .ok (.invokestatic 319, 3) := by decide +kernel
theorem dX2_keepStop_91 : decode cX2_keepStop 91 = .ok (.putfield 322, 3) := by decide +kernel
theorem dX2_keepStop_94 : decode cX2_keepStop 94 = .ok (.aload 4, 2) := by decide +kernel
theorem dX2_keepStop_96 : decode cX2_keepStop 96 = .ok (.aload_n 2, 1) := by decide +kernel
theorem dX2_keepStop_97 : decode cX2_keepStop 97 = .ok (.getfield 208, 3) := by decide +kernel
theorem dX2_keepStop_100 : decode cX2_keepStop 100 = .ok (.ifCond .eq 32, 3) := by decide +kernel
theorem dX2_keepStop_103 : decode cX2_keepStop 103 = .ok (.aload_n 0, 1) := by decide +kernel
theorem dX2_keepStop_104 : decode cX2_keepStop 104 = .ok (.getfield 15, 3) := by decide +kernel
theorem dX2_keepStop_107 : decode cX2_keepStop 107 = .ok (.aload_n 0, 1) := by decide +kernel
theorem dX2_keepStop_108 : decode cX2_keepStop 108 = .ok (.getfield 42, 3) := by decide +kernel
theorem dX2_keepStop_111 : decode cX2_keepStop 111 = .ok (.getfield 82, 3) := by decide +kernel
theorem dX2_keepStop_114 : decode cX2_keepStop 114 = .ok (.aload_n 0, 1) := by decide +kernel
theorem dX2_keepStop_115 : decode cX2_keepStop 115 = .ok (.getfield 42, 3) := by decide +kernel
theorem dX2_keepStop_118 : decode cX2_keepStop 118 = .ok (.getfield 76, 3) := by decide +kernel
theorem dX2_keepStop_121 : decode cX2_keepStop 121 = .ok (.isub, 1) := by decide +kernel
theorem dX2_keepStop_122 : decode cX2_keepStop 122 = .ok (.i2l, 1) := by decide +kernel
theorem dX2_keepStop_123 : decode cX2_keepStop 123 = .ok (.lmul, 1) := by decide +kernel
theorem dX2_keepStop_124 : decode cX2_keepStop 124 = .ok (.aload_n 2, 1) := by decide +kernel
theorem dX2_keepStop_125 : decode cX2_keepStop 125 = .ok (.getfield 185, 3) := by decide +kernel
theorem dX2_keepStop_128 : decode cX2_keepStop 128 = .ok (.ladd, 1) := by decide +kernel
theorem dX2_keepStop_129 : decode cX2_keepStop 129 = .ok (.goto 4, 3) := by decide +kernel
theorem dX2_keepStop_132 : decode cX2_keepStop 132 = .ok (.lconst 0, 1) := by decide +kernel
theorem dX2_keepStop_133 : decode cX2_keepStop 133 = .ok (.putfield 325, 3) := by decide +kernel
theorem dX2_keepStop_136 : decode cX2_keepStop 136 = .ok (.aload 4, 2) := by decide +kernel
theorem dX2_keepStop_138 : decode cX2_keepStop 138 = .ok (.lconst 0, 1) := by decide +kernel
theorem dX2_keepStop_139 : decode cX2_keepStop 139 = .ok (.putfield 328, 3) := by decide +kernel
theorem dX2_keepStop_142 : decode cX2_keepStop 142 = .ok (.aload_n 0, 1) := by decide +kernel
theorem dX2_keepStop_143 : decode cX2_keepStop 143 = .ok (.getfield 35, 3) := by decide +kernel
theorem dX2_keepStop_146 : decode cX2_keepStop 146 = .ok (.iload_n 3, 1) := by decide +kernel
theorem dX2_keepStop_147 : decode cX2_keepStop 147 = .ok (.aload 4, 2) := by decide +kernel
theorem dX2_keepStop_149 : decode cX2_keepStop 149 = .ok (.aastore, 1) := by decide +kernel
theorem dX2_keepStop_150 : decode cX2_keepStop 150 = .ok (.aload_n 0, 1) := by decide +kernel
theorem dX2_keepStop_151 : decode cX2_keepStop 151 = .ok (.getfield 42, 3) := by decide +kernel
theorem dX2_keepStop_154 : decode cX2_keepStop 154 = .ok (.dup, 1) := by decide +kernel
theorem dX2_keepStop_155 : decode cX2_keepStop 155 = .ok (.getfield 65, 3) := by decide +kernel
theorem dX2_keepStop_158 : decode cX2_keepStop 158 = .ok (.iconst 1, 1) := by decide +kernel
theorem dX2_keepStop_159 : decode cX2_keepStop 159 = .ok (.iadd, 1) := by decide +kernel
theorem dX2_keepStop_160 : decode cX2_keepStop 160 = .ok (.putfield 65, 3) := by decide +kernel
theorem dX2_keepStop_163 : decode cX2_keepStop 163 = .ok (.return_, 1) := by decide +kernel
theorem dX2_replacePlace_0 : decode cX2_replacePlace 0 = .ok (.aload_n 0, 1) := by decide +kernel
theorem dX2_replacePlace_1 : decode cX2_replacePlace 1 = .ok (.getfield 42, 3) := by decide +kernel
theorem dX2_replacePlace_4 : decode cX2_replacePlace 4 = .ok (.getfield 85, 3) := by decide +kernel
theorem dX2_replacePlace_7 : decode cX2_replacePlace 7 = .ok (.iconst 1, 1) := by decide +kernel
theorem dX2_replacePlace_8 : decode cX2_replacePlace 8 = .ok (.if_icmp .eq 5, 3) := by decide +kernel
theorem dX2_replacePlace_11 : decode cX2_replacePlace 11 = .ok (.iconst 2, 1) := by decide +kernel
theorem dX2_replacePlace_12 : decode cX2_replacePlace 12 = .ok (.ireturn, 1) := by decide +kernel
theorem dX2_replacePlace_13 : decode cX2_replacePlace 13 = .ok (.aload_n 0, 1) := by decide +kernel
theorem dX2_replacePlace_14 : decode cX2_replacePlace 14 = .ok (.getfield 42, 3) := by decide +kernel
theorem dX2_replacePlace_17 : decode cX2_replacePlace 17 = .ok (.iload_n 1, 1) := by decide +kernel
theorem dX2_replacePlace_18 : decode cX2_replacePlace 18 = .ok (.invokevirtual 138, 3) := by decide +kernel
theorem dX2_replacePlace_21 : decode cX2_replacePlace 21 = .ok (.astore_n 3, 1) := by decide +kernel
theorem dX2_replacePlace_22 : decode cX2_replacePlace 22 = .ok (.aload_n 3, 1) := by decide +kernel
theorem dX2_replacePlace_23 : decode cX2_replacePlace 23 = .ok (.ifnonnull 5, 3) := by decide +kernel
theorem dX2_replacePlace_26 : decode cX2_replacePlace 26 = .ok (.iconst 3, 1) := by decide +kernel
theorem dX2_replacePlace_27 : decode cX2_replacePlace 27 = .ok (.ireturn, 1) := by decide +kernel
theorem dX2_replacePlace_28 : decode cX2_replacePlace 28 = .ok (.aload_n 3, 1) := by decide +kernel
theorem dX2_replacePlace_29 : decode cX2_replacePlace 29 = .ok (.getfield 141, 3) := by decide +kernel
theorem dX2_replacePlace_32 : decode cX2_replacePlace 32 = .ok (.ifCond .ne 6, 3) := by decide +kernel
theorem dX2_replacePlace_35 : decode cX2_replacePlace 35 = .ok (.bipush 8, 2) := by decide +kernel
theorem dX2_replacePlace_37 : decode cX2_replacePlace 37 = .ok (.ireturn, 1) := by decide +kernel
theorem dX2_replacePlace_38 : decode cX2_replacePlace 38 = .ok (.iload_n 2, 1) := by decide +kernel
theorem dX2_replacePlace_39 : decode cX2_replacePlace 39 = .ok (.i2l, 1) := by decide +kernel
theorem dX2_replacePlace_40 : decode cX2_replacePlace 40 = .ok (.ldc2_w 170, 3) := by decide +kernel
theorem dX2_replacePlace_43 : decode cX2_replacePlace 43 = .ok (.ldc2_w 92, 3) := by decide +kernel
theorem dX2_replacePlace_46 : decode cX2_replacePlace 46 = .ok (.invokestatic 94, 3) := by decide +kernel
theorem dX2_replacePlace_49 : decode cX2_replacePlace 49 = .ok (.ifCond .ne 5, 3) := by decide +kernel
theorem dX2_replacePlace_52 : decode cX2_replacePlace 52 = .ok (.iconst 4, 1) := by decide +kernel
theorem dX2_replacePlace_53 : decode cX2_replacePlace 53 = .ok (.ireturn, 1) := by decide +kernel
theorem dX2_replacePlace_54 : decode cX2_replacePlace 54 = .ok (.aload_n 3, 1) := by decide +kernel
theorem dX2_replacePlace_55 : decode cX2_replacePlace 55 = .ok (.iload_n 2, 1) := by decide +kernel
theorem dX2_replacePlace_56 : decode cX2_replacePlace 56 = .ok (.putfield 98, 3) := by decide +kernel
theorem dX2_replacePlace_59 : decode cX2_replacePlace 59 = .ok (.aload_n 3, 1) := by decide +kernel
theorem dX2_replacePlace_60 : decode cX2_replacePlace 60 = .ok (.iconst 0, 1) := by decide +kernel
theorem dX2_replacePlace_61 : decode cX2_replacePlace 61 = .ok (.putfield 141, 3) := by decide +kernel
theorem dX2_replacePlace_64 : decode cX2_replacePlace 64 = .ok (.aload_n 3, 1) := by decide +kernel
theorem dX2_replacePlace_65 : decode cX2_replacePlace 65 = .ok (.lconst 0, 1) := by decide +kernel
theorem dX2_replacePlace_66 : decode cX2_replacePlace 66 = .ok (.putfield 246, 3) := by decide +kernel
theorem dX2_replacePlace_69 : decode cX2_replacePlace 69 = .ok (.aload_n 3, 1) := by decide +kernel
theorem dX2_replacePlace_70 : decode cX2_replacePlace 70 = .ok (.lconst 0, 1) := by decide +kernel
theorem dX2_replacePlace_71 : decode cX2_replacePlace 71 = .ok (.putfield 182, 3) := by decide +kernel
theorem dX2_replacePlace_74 : decode cX2_replacePlace 74 = .ok (.aload_n 3, 1) := by decide +kernel
theorem dX2_replacePlace_75 : decode cX2_replacePlace 75 = .ok (.lconst 0, 1) := by decide +kernel
theorem dX2_replacePlace_76 : decode cX2_replacePlace 76 = .ok (.putfield 290, 3) := by decide +kernel
theorem dX2_replacePlace_79 : decode cX2_replacePlace 79 = .ok (.aload_n 3, 1) := by decide +kernel
theorem dX2_replacePlace_80 : decode cX2_replacePlace 80 = .ok (.lconst 0, 1) := by decide +kernel
theorem dX2_replacePlace_81 : decode cX2_replacePlace 81 = .ok (.putfield 293, 3) := by decide +kernel
theorem dX2_replacePlace_84 : decode cX2_replacePlace 84 = .ok (.aload_n 3, 1) := by decide +kernel
theorem dX2_replacePlace_85 : decode cX2_replacePlace 85 = .ok (.lconst 0, 1) := by decide +kernel
theorem dX2_replacePlace_86 : decode cX2_replacePlace 86 = .ok (.putfield 331, 3) := by decide +kernel
theorem dX2_replacePlace_89 : decode cX2_replacePlace 89 = .ok (.iconst 0, 1) := by decide +kernel
theorem dX2_replacePlace_90 : decode cX2_replacePlace 90 = .ok (.ireturn, 1) := by decide +kernel
theorem dX2_stopOf_0 : decode cX2_stopOf 0 = .ok (.iload_n 1, 1) := by decide +kernel
theorem dX2_stopOf_1 : decode cX2_stopOf 1 = .ok (.ifCond .lt 30, 3) := by decide +kernel
theorem dX2_stopOf_4 : decode cX2_stopOf 4 = .ok (.iload_n 1, 1) := by decide +kernel
theorem dX2_stopOf_5 : decode cX2_stopOf 5 = .ok (.aload_n 0, 1) := by decide +kernel
theorem dX2_stopOf_6 : decode cX2_stopOf 6 = .ok (.getfield 42, 3) := by decide +kernel
theorem dX2_stopOf_9 : decode cX2_stopOf 9 = .ok (.getfield 65, 3) := by decide +kernel
theorem dX2_stopOf_12 : decode cX2_stopOf 12 = .ok (.if_icmp .ge 19, 3) := by decide +kernel
theorem dX2_stopOf_15 : decode cX2_stopOf 15 = .ok (.iload_n 1, 1) := by decide +kernel
theorem dX2_stopOf_16 : decode cX2_stopOf 16 = .ok (.sipush 512, 3) := by decide +kernel
theorem dX2_stopOf_19 : decode cX2_stopOf 19 = .ok (.if_icmp .ge 12, 3) := by decide +kernel
theorem dX2_stopOf_22 : decode cX2_stopOf 22 = .ok (.aload_n 0, 1) := by decide +kernel
theorem dX2_stopOf_23 : decode cX2_stopOf 23 = .ok (.getfield 35, 3) := by decide +kernel
theorem dX2_stopOf_26 : decode cX2_stopOf 26 = .ok (.iload_n 1, 1) := by decide +kernel
theorem dX2_stopOf_27 : decode cX2_stopOf 27 = .ok (.aaload, 1) := by decide +kernel
theorem dX2_stopOf_28 : decode cX2_stopOf 28 = .ok (.goto 4, 3) := by decide +kernel
theorem dX2_stopOf_31 : decode cX2_stopOf 31 = .ok (.aconst_null, 1) := by decide +kernel
theorem dX2_stopOf_32 : decode cX2_stopOf 32 = .ok (.astore_n 3, 1) := by decide +kernel
theorem dX2_stopOf_33 : decode cX2_stopOf 33 = .ok (.aload_n 3, 1) := by decide +kernel
theorem dX2_stopOf_34 : decode cX2_stopOf 34 = .ok (.ifnonnull 7, 3) := by decide +kernel
theorem dX2_stopOf_37 : decode cX2_stopOf 37 = .ok (.ldc2_w 271, 3) := by decide +kernel
theorem dX2_stopOf_40 : decode cX2_stopOf 40 = .ok (.lreturn, 1) := by decide +kernel
theorem dX2_stopOf_41 : decode cX2_stopOf 41 = .ok (.iload_n 2, 1) := by decide +kernel
theorem dX2_stopOf_42 : decode cX2_stopOf 42 = .ok (.tableswitch 76 0 4 #[34, 40, 46, 51, 56], 34) := by decide +kernel
theorem dX2_stopOf_76 : decode cX2_stopOf 76 = .ok (.aload_n 3, 1) := by decide +kernel
theorem dX2_stopOf_77 : decode cX2_stopOf 77 = .ok (.getfield 315, 3) := by decide +kernel
theorem dX2_stopOf_80 : decode cX2_stopOf 80 = .ok (.i2l, 1) := by decide +kernel
theorem dX2_stopOf_81 : decode cX2_stopOf 81 = .ok (.lreturn, 1) := by decide +kernel
theorem dX2_stopOf_82 : decode cX2_stopOf 82 = .ok (.aload_n 3, 1) := by decide +kernel
theorem dX2_stopOf_83 : decode cX2_stopOf 83 = .ok (.getfield 318, 3) := by decide +kernel
theorem dX2_stopOf_86 : decode cX2_stopOf 86 = .ok (.i2l, 1) := by decide +kernel
theorem dX2_stopOf_87 : decode cX2_stopOf 87 = .ok (.lreturn, 1) := by decide +kernel
theorem dX2_stopOf_88 : decode cX2_stopOf 88 = .ok (.aload_n 3, 1) := by decide +kernel
theorem dX2_stopOf_89 : decode cX2_stopOf 89 = .ok (.getfield 322, 3) := by decide +kernel
theorem dX2_stopOf_92 : decode cX2_stopOf 92 = .ok (.lreturn, 1) := by decide +kernel
theorem dX2_stopOf_93 : decode cX2_stopOf 93 = .ok (.aload_n 3, 1) := by decide +kernel
theorem dX2_stopOf_94 : decode cX2_stopOf 94 = .ok (.getfield 325, 3) := by decide +kernel
theorem dX2_stopOf_97 : decode cX2_stopOf 97 = .ok (.lreturn, 1) := by decide +kernel
theorem dX2_stopOf_98 : decode cX2_stopOf 98 = .ok (.aload_n 0, 1) := by decide +kernel
theorem dX2_stopOf_99 : decode cX2_stopOf 99 = .ok (.getfield 42, 3) := by decide +kernel
theorem dX2_stopOf_102 : decode cX2_stopOf 102 = .ok (.getfield 85, 3) := by decide +kernel
theorem dX2_stopOf_105 : decode cX2_stopOf 105 = .ok (.iconst 2, 1) := by decide +kernel
theorem dX2_stopOf_106 : decode cX2_stopOf 106 = .ok (.if_icmp .ne 10, 3) := by decide +kernel
theorem dX2_stopOf_109 : decode cX2_stopOf 109 = .ok (.aload_n 3, 1) := by decide +kernel
theorem dX2_stopOf_110 : decode cX2_stopOf 110 = .ok (.getfield 328, 3) := by decide +kernel
theorem dX2_stopOf_113 : decode cX2_stopOf 113 = .ok (.goto 4, 3) := by decide +kernel
theorem dX2_stopOf_116 : decode cX2_stopOf 116 = .ok (.lconst 0, 1) := by decide +kernel
theorem dX2_stopOf_117 : decode cX2_stopOf 117 = .ok (.lreturn, 1) := by decide +kernel
theorem dX2_stopOf_118 : decode cX2_stopOf 118 = .ok (.ldc2_w 271, 3) := by decide +kernel
theorem dX2_stopOf_121 : decode cX2_stopOf 121 = .ok (.lreturn, 1) := by decide +kernel
theorem dX2_finish_0 : decode cX2_finish 0 = .ok (.aload_n 0, 1) := by decide +kernel
theorem dX2_finish_1 : decode cX2_finish 1 = .ok (.getfield 42, 3) := by decide +kernel
theorem dX2_finish_4 : decode cX2_finish 4 = .ok (.getfield 85, 3) := by decide +kernel
theorem dX2_finish_7 : decode cX2_finish 7 = .ok (.iconst 1, 1) := by decide +kernel
theorem dX2_finish_8 : decode cX2_finish 8 = .ok (.if_icmp .eq 5, 3) := by decide +kernel
theorem dX2_finish_11 : decode cX2_finish 11 = .ok (.iconst 2, 1) := by decide +kernel
theorem dX2_finish_12 : decode cX2_finish 12 = .ok (.ireturn, 1) := by decide +kernel
theorem dX2_finish_13 : decode cX2_finish 13 = .ok (.aload_n 0, 1) := by decide +kernel
theorem dX2_finish_14 : decode cX2_finish 14 = .ok (.getfield 42, 3) := by decide +kernel
theorem dX2_finish_17 : decode cX2_finish 17 = .ok (.invokevirtual 148, 3) := by decide +kernel
theorem dX2_finish_20 : decode cX2_finish 20 = .ok (.ifCond .eq 6, 3) := by decide +kernel
theorem dX2_finish_23 : decode cX2_finish 23 = .ok (.bipush 8, 2) := by decide +kernel
theorem dX2_finish_25 : decode cX2_finish 25 = .ok (.ireturn, 1) := by decide +kernel
theorem dX2_finish_26 : decode cX2_finish 26 = .ok (.aload_n 0, 1) := by decide +kernel
theorem dX2_finish_27 : decode cX2_finish 27 = .ok (.getfield 42, 3) := by decide +kernel
theorem dX2_finish_30 : decode cX2_finish 30 = .ok (.getfield 126, 3) := by decide +kernel
theorem dX2_finish_33 : decode cX2_finish 33 = .ok (.astore_n 1, 1) := by decide +kernel
theorem dX2_finish_34 : decode cX2_finish 34 = .ok (.aload_n 1, 1) := by decide +kernel
theorem dX2_finish_35 : decode cX2_finish 35 = .ok (.arraylength, 1) := by decide +kernel
theorem dX2_finish_36 : decode cX2_finish 36 = .ok (.istore_n 2, 1) := by decide +kernel
theorem dX2_finish_37 : decode cX2_finish 37 = .ok (.iconst 0, 1) := by decide +kernel
theorem dX2_finish_38 : decode cX2_finish 38 = .ok (.istore_n 3, 1) := by decide +kernel
theorem dX2_finish_39 : decode cX2_finish 39 = .ok (.iload_n 3, 1) := by decide +kernel
theorem dX2_finish_40 : decode cX2_finish 40 = .ok (.iload_n 2, 1) := by decide +kernel
theorem dX2_finish_41 : decode cX2_finish 41 = .ok (.if_icmp .ge 19, 3) := by decide +kernel
theorem dX2_finish_44 : decode cX2_finish 44 = .ok (.aload_n 1, 1) := by decide +kernel
theorem dX2_finish_45 : decode cX2_finish 45 = .ok (.iload_n 3, 1) := by decide +kernel
theorem dX2_finish_46 : decode cX2_finish 46 = .ok (.aaload, 1) := by decide +kernel
theorem dX2_finish_47 : decode cX2_finish 47 = .ok (.astore 4, 2) := by decide +kernel
theorem dX2_finish_49 : decode cX2_finish 49 = .ok (.aload 4, 2) := by decide +kernel
theorem dX2_finish_51 : decode cX2_finish 51 = .ok (.invokevirtual 312, 3) := by decide +kernel
theorem dX2_finish_54 : decode cX2_finish 54 = .ok (.iinc 3 1, 3) := by decide +kernel
theorem dX2_finish_57 : decode cX2_finish 57 = .ok (.goto (-18), 3) := by decide +kernel
theorem dX2_finish_60 : decode cX2_finish 60 = .ok (.aload_n 0, 1) := by decide +kernel
theorem dX2_finish_61 : decode cX2_finish 61 = .ok (.invokevirtual 334, 3) := by decide +kernel
theorem dX2_finish_64 : decode cX2_finish 64 = .ok (.aload_n 0, 1) := by decide +kernel
theorem dX2_finish_65 : decode cX2_finish 65 = .ok (.invokevirtual 337, 3) := by decide +kernel
theorem dX2_finish_68 : decode cX2_finish 68 = .ok (.aload_n 0, 1) := by decide +kernel
theorem dX2_finish_69 : decode cX2_finish 69 = .ok (.getfield 42, 3) := by decide +kernel
theorem dX2_finish_72 : decode cX2_finish 72 = .ok (.iconst 2, 1) := by decide +kernel
theorem dX2_finish_73 : decode cX2_finish 73 = .ok (.putfield 85, 3) := by decide +kernel
theorem dX2_finish_76 : decode cX2_finish 76 = .ok (.iconst 0, 1) := by decide +kernel
theorem dX2_finish_77 : decode cX2_finish 77 = .ok (.ireturn, 1) := by decide +kernel
theorem dX2_payStops_0 : decode cX2_payStops 0 = .ok (.iconst 0, 1) := by decide +kernel
theorem dX2_payStops_1 : decode cX2_payStops 1 = .ok (.istore_n 1, 1) := by decide +kernel
theorem dX2_payStops_2 : decode cX2_payStops 2 = .ok (.iload_n 1, 1) := by decide +kernel
theorem dX2_payStops_3 : decode cX2_payStops 3 = .ok (.aload_n 0, 1) := by decide +kernel
theorem dX2_payStops_4 : decode cX2_payStops 4 = .ok (.getfield 42, 3) := by decide +kernel
theorem dX2_payStops_7 : decode cX2_payStops 7 = .ok (.getfield 65, 3) := by decide +kernel
theorem dX2_payStops_10 : decode cX2_payStops 10 = .ok (.if_icmp .ge 65, 3) := by decide +kernel
theorem dX2_payStops_13 : decode cX2_payStops 13 = .ok (.iload_n 1, 1) := by decide +kernel
theorem dX2_payStops_14 : decode cX2_payStops 14 = .ok (.sipush 512, 3) := by decide +kernel
theorem dX2_payStops_17 : decode cX2_payStops 17 = .ok (.if_icmp .ge 58, 3) := by decide +kernel
theorem dX2_payStops_20 : decode cX2_payStops 20 = .ok (.aload_n 0, 1) := by decide +kernel
theorem dX2_payStops_21 : decode cX2_payStops 21 = .ok (.getfield 35, 3) := by decide +kernel
theorem dX2_payStops_24 : decode cX2_payStops 24 = .ok (.iload_n 1, 1) := by decide +kernel
theorem dX2_payStops_25 : decode cX2_payStops 25 = .ok (.aaload, 1) := by decide +kernel
theorem dX2_payStops_26 : decode cX2_payStops 26 = .ok (.astore_n 2, 1) := by decide +kernel
theorem dX2_payStops_27 : decode cX2_payStops 27 = .ok (.aload_n 2, 1) := by decide +kernel
theorem dX2_payStops_28 : decode cX2_payStops 28 = .ok (.ifnull 41, 3) := by decide +kernel
theorem dX2_payStops_31 : decode cX2_payStops 31 = .ok (.aload_n 2, 1) := by decide +kernel
theorem dX2_payStops_32 : decode cX2_payStops 32 = .ok (.getfield 322, 3) := by decide +kernel
theorem dX2_payStops_35 : decode cX2_payStops 35 = .ok (.aload_n 0, 1) := by decide +kernel
theorem dX2_payStops_36 : decode cX2_payStops 36 = .ok (.getfield 42, 3) := by decide +kernel
theorem dX2_payStops_39 : decode cX2_payStops 39 = .ok (.getfield 46, 3) := by decide +kernel
theorem dX2_payStops_42 : decode cX2_payStops 42 = .ok (.invokestatic 220, 3) := by decide +kernel
theorem dX2_payStops_45 : decode cX2_payStops 45 = .ok (.lstore_n 3, 1) := by decide +kernel
theorem dX2_payStops_46 : decode cX2_payStops 46 = .ok (.aload_n 0, 1) := by decide +kernel
theorem dX2_payStops_47 : decode cX2_payStops 47 = .ok (.getfield 42, 3) := by decide +kernel
theorem dX2_payStops_50 : decode cX2_payStops 50 = .ok (.dup, 1) := by decide +kernel
theorem dX2_payStops_51 : decode cX2_payStops 51 = .ok (.getfield 46, 3) := by decide +kernel
theorem dX2_payStops_54 : decode cX2_payStops 54 = .ok (.lload_n 3, 1) := by decide +kernel
theorem dX2_payStops_55 : decode cX2_payStops 55 = .ok (.lsub, 1) := by decide +kernel
theorem dX2_payStops_56 : decode cX2_payStops 56 = .ok (.putfield 46, 3) := by decide +kernel
theorem dX2_payStops_59 : decode cX2_payStops 59 = .ok (.aload_n 2, 1) := by decide +kernel
theorem dX2_payStops_60 : decode cX2_payStops 60 = .ok (.aload_n 2, 1) := by decide +kernel
theorem dX2_payStops_61 : decode cX2_payStops 61 = .ok (.getfield 322, 3) := by decide +kernel
theorem dX2_payStops_64 : decode cX2_payStops 64 = .ok (.lload_n 3, 1) := by decide +kernel
theorem dX2_payStops_65 : decode cX2_payStops 65 = .ok (.lsub, 1) := by decide +kernel
theorem dX2_payStops_66 : decode cX2_payStops 66 = .ok (.putfield 328, 3) := by decide +kernel
theorem dX2_payStops_69 : decode cX2_payStops 69 = .ok (.iinc 1 1, 3) := by decide +kernel
theorem dX2_payStops_72 : decode cX2_payStops 72 = .ok (.goto (-70), 3) := by decide +kernel
theorem dX2_payStops_75 : decode cX2_payStops 75 = .ok (.return_, 1) := by decide +kernel
theorem dX2_shareChest_0 : decode cX2_shareChest 0 = .ok (.iconst 0, 1) := by decide +kernel
theorem dX2_shareChest_1 : decode cX2_shareChest 1 = .ok (.istore_n 1, 1) := by decide +kernel
theorem dX2_shareChest_2 : decode cX2_shareChest 2 = .ok (.aload_n 0, 1) := by decide +kernel
theorem dX2_shareChest_3 : decode cX2_shareChest 3 = .ok (.getfield 42, 3) := by decide +kernel
theorem dX2_shareChest_6 : decode cX2_shareChest 6 = .ok (.getfield 126, 3) := by decide +kernel
theorem dX2_shareChest_9 : decode cX2_shareChest 9 = .ok (.astore_n 2, 1) := by decide +kernel
theorem dX2_shareChest_10 : decode cX2_shareChest 10 = .ok (.aload_n 2, 1) := by decide +kernel
theorem dX2_shareChest_11 : decode cX2_shareChest 11 = .ok (.arraylength, 1) := by decide +kernel
theorem dX2_shareChest_12 : decode cX2_shareChest 12 = .ok (.istore_n 3, 1) := by decide +kernel
theorem dX2_shareChest_13 : decode cX2_shareChest 13 = .ok (.iconst 0, 1) := by decide +kernel
theorem dX2_shareChest_14 : decode cX2_shareChest 14 = .ok (.istore 4, 2) := by decide +kernel
theorem dX2_shareChest_16 : decode cX2_shareChest 16 = .ok (.iload 4, 2) := by decide +kernel
theorem dX2_shareChest_18 : decode cX2_shareChest 18 = .ok (.iload_n 3, 1) := by decide +kernel
theorem dX2_shareChest_19 : decode cX2_shareChest 19 = .ok (.if_icmp .ge 31, 3) := by decide +kernel
theorem dX2_shareChest_22 : decode cX2_shareChest 22 = .ok (.aload_n 2, 1) := by decide +kernel
theorem dX2_shareChest_23 : decode cX2_shareChest 23 = .ok (.iload 4, 2) := by decide +kernel
theorem dX2_shareChest_25 : decode cX2_shareChest 25 = .ok (.aaload, 1) := by decide +kernel
theorem dX2_shareChest_26 : decode cX2_shareChest 26 = .ok (.astore 5, 2) := by decide +kernel
theorem dX2_shareChest_28 : decode cX2_shareChest 28 = .ok (.iload_n 1, 1) := by decide +kernel
theorem dX2_shareChest_29 : decode cX2_shareChest 29 = .ok (.aload 5, 2) := by decide +kernel
theorem dX2_shareChest_31 : decode cX2_shareChest 31 = .ok (.getfield 134, 3) := by decide +kernel
theorem dX2_shareChest_34 : decode cX2_shareChest 34 = .ok (.ifCond .eq 7, 3) := by decide +kernel
theorem dX2_shareChest_37 : decode cX2_shareChest 37 = .ok (.iconst 1, 1) := by decide +kernel
theorem dX2_shareChest_38 : decode cX2_shareChest 38 = .ok (.goto 4, 3) := by decide +kernel
theorem dX2_shareChest_41 : decode cX2_shareChest 41 = .ok (.iconst 0, 1) := by decide +kernel
theorem dX2_shareChest_42 : decode cX2_shareChest 42 = .ok (.iadd, 1) := by decide +kernel
theorem dX2_shareChest_43 : decode cX2_shareChest 43 = .ok (.istore_n 1, 1) := by decide +kernel
theorem dX2_shareChest_44 : decode cX2_shareChest 44 = .ok (.iinc 4 1, 3) := by decide +kernel
theorem dX2_shareChest_47 : decode cX2_shareChest 47 = .ok (.goto (-31), 3) := by decide +kernel
theorem dX2_shareChest_50 : decode cX2_shareChest 50 = .ok (.iload_n 1, 1) := by decide +kernel
theorem dX2_shareChest_51 : decode cX2_shareChest 51 = .ok (.ifCond .gt 4, 3) := by decide +kernel
theorem dX2_shareChest_54 : decode cX2_shareChest 54 = .ok (.return_, 1) := by decide +kernel
theorem dX2_shareChest_55 : decode cX2_shareChest 55 = .ok (.aload_n 0, 1) := by decide +kernel
theorem dX2_shareChest_56 : decode cX2_shareChest 56 = .ok (.getfield 42, 3) := by decide +kernel
theorem dX2_shareChest_59 : decode cX2_shareChest 59 = .ok (.getfield 46, 3) := by decide +kernel
theorem dX2_shareChest_62 : decode cX2_shareChest 62 = .ok (.iload_n 1, 1) := by decide +kernel
theorem dX2_shareChest_63 : decode cX2_shareChest 63 = .ok (.i2l, 1) := by decide +kernel
theorem dX2_shareChest_64 : decode cX2_shareChest 64 = .ok (.ldiv, 1) := by decide +kernel
theorem dX2_shareChest_65 : decode cX2_shareChest 65 = .ok (.lstore_n 2, 1) := by decide +kernel
theorem dX2_shareChest_66 : decode cX2_shareChest 66 = .ok (.aload_n 0, 1) := by decide +kernel
theorem dX2_shareChest_67 : decode cX2_shareChest 67 = .ok (.getfield 42, 3) := by decide +kernel
theorem dX2_shareChest_70 : decode cX2_shareChest 70 = .ok (.getfield 46, 3) := by decide +kernel
theorem dX2_shareChest_73 : decode cX2_shareChest 73 = .ok (.lload_n 2, 1) := by decide +kernel
theorem dX2_shareChest_74 : decode cX2_shareChest 74 = .ok (.iload_n 1, 1) := by decide +kernel
theorem dX2_shareChest_75 : decode cX2_shareChest 75 = .ok (.i2l, 1) := by decide +kernel
theorem dX2_shareChest_76 : decode cX2_shareChest 76 = .ok (.lmul, 1) := by decide +kernel
theorem dX2_shareChest_77 : decode cX2_shareChest 77 = .ok (.lsub, 1) := by decide +kernel
theorem dX2_shareChest_78 : decode cX2_shareChest 78 = .ok (.lstore 4, 2) := by decide +kernel
theorem dX2_shareChest_80 : decode cX2_shareChest 80 = .ok (.aload_n 0, 1) := by decide +kernel
theorem dX2_shareChest_81 : decode cX2_shareChest 81 = .ok (.getfield 42, 3) := by decide +kernel
theorem dX2_shareChest_84 : decode cX2_shareChest 84 = .ok (.getfield 126, 3) := by decide +kernel
theorem dX2_shareChest_87 : decode cX2_shareChest 87 = .ok (.astore 6, 2) := by decide +kernel
theorem dX2_shareChest_89 : decode cX2_shareChest 89 = .ok (.aload 6, 2) := by decide +kernel
theorem dX2_shareChest_91 : decode cX2_shareChest 91 = .ok (.arraylength, 1) := by decide +kernel
theorem dX2_shareChest_92 : decode cX2_shareChest 92 = .ok (.istore 7, 2) := by decide +kernel
theorem dX2_shareChest_94 : decode cX2_shareChest 94 = .ok (.iconst 0, 1) := by decide +kernel
theorem dX2_shareChest_95 : decode cX2_shareChest 95 = .ok (.istore 8, 2) := by decide +kernel
theorem dX2_shareChest_97 : decode cX2_shareChest 97 = .ok (.iload 8, 2) := by decide +kernel
theorem dX2_shareChest_99 : decode cX2_shareChest 99 = .ok (.iload 7, 2) := by decide +kernel
theorem dX2_shareChest_101 : decode cX2_shareChest 101 = .ok (.if_icmp .ge 54, 3) := by decide +kernel
theorem dX2_shareChest_104 : decode cX2_shareChest 104 = .ok (.aload 6, 2) := by decide +kernel
theorem dX2_shareChest_106 : decode cX2_shareChest 106 = .ok (.iload 8, 2) := by decide +kernel
theorem dX2_shareChest_108 : decode cX2_shareChest 108 = .ok (.aaload, 1) := by decide +kernel
theorem dX2_shareChest_109 : decode cX2_shareChest 109 = .ok (.astore 9, 2) := by decide +kernel
theorem dX2_shareChest_111 : decode cX2_shareChest 111 = .ok (.aload 9, 2) := by decide +kernel
theorem dX2_shareChest_113 : decode cX2_shareChest 113 = .ok (.getfield 134, 3) := by decide +kernel
theorem dX2_shareChest_116 : decode cX2_shareChest 116 = .ok (.ifCond .eq 33, 3) := by decide +kernel
theorem dX2_shareChest_119 : decode cX2_shareChest 119 = .ok (.aload 9, 2) := by decide +kernel
theorem dX2_shareChest_121 : decode cX2_shareChest 121 = .ok (.dup, 1) := by decide +kernel
theorem dX2_shareChest_122 : decode cX2_shareChest 122 = .ok (.getfield 331, 3) := by decide +kernel
theorem dX2_shareChest_125 : decode cX2_shareChest 125 = .ok (.lload 4, 2) := by decide +kernel
theorem dX2_shareChest_127 : decode cX2_shareChest 127 = .ok (.lconst 0, 1) := by decide +kernel
theorem dX2_shareChest_128 : decode cX2_shareChest 128 = .ok (.lcmp, 1) := by decide +kernel
theorem dX2_shareChest_129 : decode cX2_shareChest 129 = .ok (.ifCond .le 9, 3) := by decide +kernel
theorem dX2_shareChest_132 : decode cX2_shareChest 132 = .ok (.lload_n 2, 1) := by decide +kernel
theorem dX2_shareChest_133 : decode cX2_shareChest 133 = .ok (.lconst 1, 1) := by decide +kernel
theorem dX2_shareChest_134 : decode cX2_shareChest 134 = .ok (.ladd, 1) := by decide +kernel
theorem dX2_shareChest_135 : decode cX2_shareChest 135 = .ok (.goto 4, 3) := by decide +kernel
theorem dX2_shareChest_138 : decode cX2_shareChest 138 = .ok (.lload_n 2, 1) := by decide +kernel
theorem dX2_shareChest_139 : decode cX2_shareChest 139 = .ok (.ladd, 1) := by decide +kernel
theorem dX2_shareChest_140 : decode cX2_shareChest 140 = .ok (.putfield 331, 3) := by decide +kernel
theorem dX2_shareChest_143 : decode cX2_shareChest 143 = .ok (.lload 4, 2) := by decide +kernel
theorem dX2_shareChest_145 : decode cX2_shareChest 145 = .ok (.lconst 1, 1) := by decide +kernel
theorem dX2_shareChest_146 : decode cX2_shareChest 146 = .ok (.lsub, 1) := by decide +kernel
theorem dX2_shareChest_147 : decode cX2_shareChest 147 = .ok (.lstore 4, 2) := by decide +kernel
theorem dX2_shareChest_149 : decode cX2_shareChest 149 = .ok (.iinc 8 1, 3) := by decide +kernel
theorem dX2_shareChest_152 : decode cX2_shareChest 152 = .ok (.goto (-55), 3) := by decide +kernel
theorem dX2_shareChest_155 : decode cX2_shareChest 155 = .ok (.aload_n 0, 1) := by decide +kernel
theorem dX2_shareChest_156 : decode cX2_shareChest 156 = .ok (.getfield 42, 3) := by decide +kernel
theorem dX2_shareChest_159 : decode cX2_shareChest 159 = .ok (.lconst 0, 1) := by decide +kernel
theorem dX2_shareChest_160 : decode cX2_shareChest 160 = .ok (.putfield 46, 3) := by decide +kernel
theorem dX2_shareChest_163 : decode cX2_shareChest 163 = .ok (.return_, 1) := by decide +kernel
theorem dX2_fairness_0 : decode cX2_fairness 0 = .ok (.aload_n 0, 1) := by decide +kernel
theorem dX2_fairness_1 : decode cX2_fairness 1 = .ok (.getfield 9, 3) := by decide +kernel
theorem dX2_fairness_4 : decode cX2_fairness 4 = .ok (.ifCond .ne 23, 3) := by decide +kernel
theorem dX2_fairness_7 : decode cX2_fairness 7 = .ok (.aload_n 0, 1) := by decide +kernel
theorem dX2_fairness_8 : decode cX2_fairness 8 = .ok (.getfield 42, 3) := by decide +kernel
theorem dX2_fairness_11 : decode cX2_fairness 11 = .ok (.getfield 85, 3) := by decide +kernel
theorem dX2_fairness_14 : decode cX2_fairness 14 = .ok (.ifCond .eq 13, 3) := by decide +kernel
theorem dX2_fairness_17 : decode cX2_fairness 17 = .ok (.aload_n 0, 1) := by decide +kernel
theorem dX2_fairness_18 : decode cX2_fairness 18 = .ok (.getfield 42, 3) := by decide +kernel
theorem dX2_fairness_21 : decode cX2_fairness 21 = .ok (.getfield 65, 3) := by decide +kernel
theorem dX2_fairness_24 : decode cX2_fairness 24 = .ok (.ifCond .le 5, 3) := by decide +kernel
theorem dX2_fairness_27 : decode cX2_fairness 27 = .ok (.iconst (-1), 1) := by decide +kernel
theorem dX2_fairness_28 : decode cX2_fairness 28 = .ok (.ireturn, 1) := by decide +kernel
theorem dX2_fairness_29 : decode cX2_fairness 29 = .ok (.aload_n 0, 1) := by decide +kernel
theorem dX2_fairness_30 : decode cX2_fairness 30 = .ok (.getfield 42, 3) := by decide +kernel
theorem dX2_fairness_33 : decode cX2_fairness 33 = .ok (.getfield 126, 3) := by decide +kernel
theorem dX2_fairness_36 : decode cX2_fairness 36 = .ok (.astore_n 1, 1) := by decide +kernel
theorem dX2_fairness_37 : decode cX2_fairness 37 = .ok (.aload_n 1, 1) := by decide +kernel
theorem dX2_fairness_38 : decode cX2_fairness 38 = .ok (.arraylength, 1) := by decide +kernel
theorem dX2_fairness_39 : decode cX2_fairness 39 = .ok (.istore_n 2, 1) := by decide +kernel
theorem dX2_fairness_40 : decode cX2_fairness 40 = .ok (.iconst 0, 1) := by decide +kernel
theorem dX2_fairness_41 : decode cX2_fairness 41 = .ok (.istore_n 3, 1) := by decide +kernel
theorem dX2_fairness_42 : decode cX2_fairness 42 = .ok (.iload_n 3, 1) := by decide +kernel
theorem dX2_fairness_43 : decode cX2_fairness 43 = .ok (.iload_n 2, 1) := by decide +kernel
theorem dX2_fairness_44 : decode cX2_fairness 44 = .ok (.if_icmp .ge 45, 3) := by decide +kernel
theorem dX2_fairness_47 : decode cX2_fairness 47 = .ok (.aload_n 1, 1) := by decide +kernel
theorem dX2_fairness_48 : decode cX2_fairness 48 = .ok (.iload_n 3, 1) := by decide +kernel
theorem dX2_fairness_49 : decode cX2_fairness 49 = .ok (.aaload, 1) := by decide +kernel
theorem dX2_fairness_50 : decode cX2_fairness 50 = .ok (.astore 4, 2) := by decide +kernel
theorem dX2_fairness_52 : decode cX2_fairness 52 = .ok (.aload 4, 2) := by decide +kernel
theorem dX2_fairness_54 : decode cX2_fairness 54 = .ok (.getfield 134, 3) := by decide +kernel
theorem dX2_fairness_57 : decode cX2_fairness 57 = .ok (.ifCond .eq 26, 3) := by decide +kernel
theorem dX2_fairness_60 : decode cX2_fairness 60 = .ok (.aload 4, 2) := by decide +kernel
theorem dX2_fairness_62 : decode cX2_fairness 62 = .ok (.getfield 208, 3) := by decide +kernel
theorem dX2_fairness_65 : decode cX2_fairness 65 = .ok (.ifCond .eq 18, 3) := by decide +kernel
theorem dX2_fairness_68 : decode cX2_fairness 68 = .ok (.aload 4, 2) := by decide +kernel
theorem dX2_fairness_70 : decode cX2_fairness 70 = .ok (.getfield 290, 3) := by decide +kernel
theorem dX2_fairness_73 : decode cX2_fairness 73 = .ok (.aload_n 0, 1) := by decide +kernel
theorem dX2_fairness_74 : decode cX2_fairness 74 = .ok (.invokevirtual 195, 3) := by decide +kernel
theorem dX2_fairness_77 : decode cX2_fairness 77 = .ok (.lcmp, 1) := by decide +kernel
theorem dX2_fairness_78 : decode cX2_fairness 78 = .ok (.ifCond .eq 5, 3) := by decide +kernel
theorem dX2_fairness_81 : decode cX2_fairness 81 = .ok (.iconst 0, 1) := by decide +kernel
theorem dX2_fairness_82 : decode cX2_fairness 82 = .ok (.ireturn, 1) := by decide +kernel
theorem dX2_fairness_83 : decode cX2_fairness 83 = .ok (.iinc 3 1, 3) := by decide +kernel
theorem dX2_fairness_86 : decode cX2_fairness 86 = .ok (.goto (-44), 3) := by decide +kernel
theorem dX2_fairness_89 : decode cX2_fairness 89 = .ok (.iconst 1, 1) := by decide +kernel
theorem dX2_fairness_90 : decode cX2_fairness 90 = .ok (.ireturn, 1) := by decide +kernel
theorem dX2_bookAhead_0 : decode cX2_bookAhead 0 = .ok (.iload_n 1, 1) := by decide +kernel
theorem dX2_bookAhead_1 : decode cX2_bookAhead 1 = .ok (.aload_n 0, 1) := by decide +kernel
theorem dX2_bookAhead_2 : decode cX2_bookAhead 2 = .ok (.getfield 79, 3) := by decide +kernel
theorem dX2_bookAhead_5 : decode cX2_bookAhead 5 = .ok (.if_icmp .lt 33, 3) := by decide +kernel
theorem dX2_bookAhead_8 : decode cX2_bookAhead 8 = .ok (.iload_n 1, 1) := by decide +kernel
theorem dX2_bookAhead_9 : decode cX2_bookAhead 9 = .ok (.ifCond .lt 29, 3) := by decide +kernel
theorem dX2_bookAhead_12 : decode cX2_bookAhead 12 = .ok (.iload_n 1, 1) := by decide +kernel
theorem dX2_bookAhead_13 : decode cX2_bookAhead 13 = .ok (.aload_n 0, 1) := by decide +kernel
theorem dX2_bookAhead_14 : decode cX2_bookAhead 14 = .ok (.getfield 42, 3) := by decide +kernel
theorem dX2_bookAhead_17 : decode cX2_bookAhead 17 = .ok (.getfield 76, 3) := by decide +kernel
theorem dX2_bookAhead_20 : decode cX2_bookAhead 20 = .ok (.if_icmp .ge 18, 3) := by decide +kernel
theorem dX2_bookAhead_23 : decode cX2_bookAhead 23 = .ok (.iload_n 1, 1) := by decide +kernel
theorem dX2_bookAhead_24 : decode cX2_bookAhead 24 = .ok (.bipush 60, 2) := by decide +kernel
theorem dX2_bookAhead_26 : decode cX2_bookAhead 26 = .ok (.if_icmp .ge 12, 3) := by decide +kernel
theorem dX2_bookAhead_29 : decode cX2_bookAhead 29 = .ok (.aload_n 0, 1) := by decide +kernel
theorem dX2_bookAhead_30 : decode cX2_bookAhead 30 = .ok (.getfield 49, 3) := by decide +kernel
theorem dX2_bookAhead_33 : decode cX2_bookAhead 33 = .ok (.iload_n 1, 1) := by decide +kernel
theorem dX2_bookAhead_34 : decode cX2_bookAhead 34 = .ok (.aaload, 1) := by decide +kernel
theorem dX2_bookAhead_35 : decode cX2_bookAhead 35 = .ok (.goto 4, 3) := by decide +kernel
theorem dX2_bookAhead_38 : decode cX2_bookAhead 38 = .ok (.aconst_null, 1) := by decide +kernel
theorem dX2_bookAhead_39 : decode cX2_bookAhead 39 = .ok (.areturn, 1) := by decide +kernel
theorem dX2_undoRound_0 : decode cX2_undoRound 0 = .ok (.aload_n 0, 1) := by decide +kernel
theorem dX2_undoRound_1 : decode cX2_undoRound 1 = .ok (.aload_n 0, 1) := by decide +kernel
theorem dX2_undoRound_2 : decode cX2_undoRound 2 = .ok (.getfield 42, 3) := by decide +kernel
theorem dX2_undoRound_5 : decode cX2_undoRound 5 = .ok (.getfield 76, 3) := by decide +kernel
theorem dX2_undoRound_8 : decode cX2_undoRound 8 = .ok (.iconst 1, 1) := by decide +kernel
theorem dX2_undoRound_9 : decode cX2_undoRound 9 = .ok (.isub, 1) := by decide +kernel
theorem dX2_undoRound_10 : decode cX2_undoRound 10 = .ok (.invokevirtual 340, 3) := by decide +kernel
theorem dX2_undoRound_13 : decode cX2_undoRound 13 = .ok (.astore_n 1, 1) := by decide +kernel
theorem dX2_undoRound_14 : decode cX2_undoRound 14 = .ok (.aload_n 1, 1) := by decide +kernel
theorem dX2_undoRound_15 : decode cX2_undoRound 15 = .ok (.ifnonnull 5, 3) := by decide +kernel
theorem dX2_undoRound_18 : decode cX2_undoRound 18 = .ok (.iconst (-1), 1) := by decide +kernel
theorem dX2_undoRound_19 : decode cX2_undoRound 19 = .ok (.ireturn, 1) := by decide +kernel
theorem dX2_undoRound_20 : decode cX2_undoRound 20 = .ok (.aload_n 0, 1) := by decide +kernel
theorem dX2_undoRound_21 : decode cX2_undoRound 21 = .ok (.getfield 42, 3) := by decide +kernel
theorem dX2_undoRound_24 : decode cX2_undoRound 24 = .ok (.aload_n 1, 1) := by decide +kernel
theorem dX2_undoRound_25 : decode cX2_undoRound 25 = .ok (.invokevirtual 73, 3) := by decide +kernel
theorem dX2_undoRound_28 : decode cX2_undoRound 28 = .ok (.aload_n 0, 1) := by decide +kernel
theorem dX2_undoRound_29 : decode cX2_undoRound 29 = .ok (.getfield 42, 3) := by decide +kernel
theorem dX2_undoRound_32 : decode cX2_undoRound 32 = .ok (.getfield 76, 3) := by decide +kernel
theorem dX2_undoRound_35 : decode cX2_undoRound 35 = .ok (.ireturn, 1) := by decide +kernel
theorem dX2_firstOtherwise_0 : decode cX2_firstOtherwise 0 = .ok (.iconst 0, 1) := by decide +kernel
theorem dX2_firstOtherwise_1 : decode cX2_firstOtherwise 1 = .ok (.istore_n 2, 1) := by decide +kernel
theorem dX2_firstOtherwise_2 : decode cX2_firstOtherwise 2 = .ok (.iload_n 2, 1) := by decide +kernel
theorem dX2_firstOtherwise_3 : decode cX2_firstOtherwise 3 = .ok (.aload_n 0, 1) := by decide +kernel
theorem dX2_firstOtherwise_4 : decode cX2_firstOtherwise 4 = .ok (.getfield 42, 3) := by decide +kernel
theorem dX2_firstOtherwise_7 : decode cX2_firstOtherwise 7 = .ok (.getfield 76, 3) := by decide +kernel
theorem dX2_firstOtherwise_10 : decode cX2_firstOtherwise 10 = .ok (.if_icmp .ge 62, 3) := by decide +kernel
theorem dX2_firstOtherwise_13 : decode cX2_firstOtherwise 13 = .ok (.iload_n 2, 1) := by decide +kernel
theorem dX2_firstOtherwise_14 : decode cX2_firstOtherwise 14 = .ok (.bipush 60, 2) := by decide +kernel
theorem dX2_firstOtherwise_16 : decode cX2_firstOtherwise 16 = .ok (.if_icmp .ge 56, 3) := by decide +kernel
theorem dX2_firstOtherwise_19 : decode cX2_firstOtherwise 19 = .ok (.iconst 0, 1) := by decide +kernel
theorem dX2_firstOtherwise_20 : decode cX2_firstOtherwise 20 = .ok (.istore_n 3, 1) := by decide +kernel
theorem dX2_firstOtherwise_21 : decode cX2_firstOtherwise 21 = .ok (.iload_n 3, 1) := by decide +kernel
theorem dX2_firstOtherwise_22 : decode cX2_firstOtherwise 22 = .ok (.iconst 3, 1) := by decide +kernel
theorem dX2_firstOtherwise_23 : decode cX2_firstOtherwise 23 = .ok (.if_icmp .ge 43, 3) := by decide +kernel
theorem dX2_firstOtherwise_26 : decode cX2_firstOtherwise 26 = .ok (.iload_n 2, 1) := by decide +kernel
theorem dX2_firstOtherwise_27 : decode cX2_firstOtherwise 27 = .ok (.iconst 3, 1) := by decide +kernel
theorem dX2_firstOtherwise_28 : decode cX2_firstOtherwise 28 = .ok (.imul, 1) := by decide +kernel
theorem dX2_firstOtherwise_29 : decode cX2_firstOtherwise 29 = .ok (.iload_n 3, 1) := by decide +kernel
theorem dX2_firstOtherwise_30 : decode cX2_firstOtherwise 30 = .ok (.iadd, 1) := by decide +kernel
theorem dX2_firstOtherwise_31 : decode cX2_firstOtherwise 31 = .ok (.istore 4, 2) := by decide +kernel
theorem dX2_firstOtherwise_33 : decode cX2_firstOtherwise 33 = .ok (.iload 4, 2) := by decide +kernel
theorem dX2_firstOtherwise_35 : decode cX2_firstOtherwise 35 = .ok (.aload_n 1, 1) := by decide +kernel
theorem dX2_firstOtherwise_36 : decode cX2_firstOtherwise 36 = .ok (.arraylength, 1) := by decide +kernel
theorem dX2_firstOtherwise_37 : decode cX2_firstOtherwise 37 = .ok (.if_icmp .ge 21, 3) := by decide +kernel
theorem dX2_firstOtherwise_40 : decode cX2_firstOtherwise 40 = .ok (.aload_n 1, 1) := by decide +kernel
theorem dX2_firstOtherwise_41 : decode cX2_firstOtherwise 41 = .ok (.iload 4, 2) := by decide +kernel
theorem dX2_firstOtherwise_43 : decode cX2_firstOtherwise 43 = .ok (.laload, 1) := by decide +kernel
theorem dX2_firstOtherwise_44 : decode cX2_firstOtherwise 44 = .ok (.aload_n 0, 1) := by decide +kernel
theorem dX2_firstOtherwise_45 : decode cX2_firstOtherwise 45 = .ok (.getfield 29, 3) := by decide +kernel
theorem dX2_firstOtherwise_48 : decode cX2_firstOtherwise 48 = .ok (.iload_n 2, 1) := by decide +kernel
theorem dX2_firstOtherwise_49 : decode cX2_firstOtherwise 49 = .ok (.iconst 4, 1) := by decide +kernel
theorem dX2_firstOtherwise_50 : decode cX2_firstOtherwise 50 = .ok (.imul, 1) := by decide +kernel
theorem dX2_firstOtherwise_51 : decode cX2_firstOtherwise 51 = .ok (.iload_n 3, 1) := by decide +kernel
theorem dX2_firstOtherwise_52 : decode cX2_firstOtherwise 52 = .ok (.iadd, 1) := by decide +kernel
theorem dX2_firstOtherwise_53 : decode cX2_firstOtherwise 53 = .ok (.laload, 1) := by decide +kernel
theorem dX2_firstOtherwise_54 : decode cX2_firstOtherwise 54 = .ok (.lcmp, 1) := by decide +kernel
theorem dX2_firstOtherwise_55 : decode cX2_firstOtherwise 55 = .ok (.ifCond .eq 5, 3) := by decide +kernel
theorem dX2_firstOtherwise_58 : decode cX2_firstOtherwise 58 = .ok (.iload_n 2, 1) := by decide +kernel
theorem dX2_firstOtherwise_59 : decode cX2_firstOtherwise 59 = .ok (.ireturn, 1) := by decide +kernel
theorem dX2_firstOtherwise_60 : decode cX2_firstOtherwise 60 = .ok (.iinc 3 1, 3) := by decide +kernel
theorem dX2_firstOtherwise_63 : decode cX2_firstOtherwise 63 = .ok (.goto (-42), 3) := by decide +kernel
theorem dX2_firstOtherwise_66 : decode cX2_firstOtherwise 66 = .ok (.iinc 2 1, 3) := by decide +kernel
theorem dX2_firstOtherwise_69 : decode cX2_firstOtherwise 69 = .ok (.goto (-67), 3) := by decide +kernel
theorem dX2_firstOtherwise_72 : decode cX2_firstOtherwise 72 = .ok (.iconst (-1), 1) := by decide +kernel
theorem dX2_firstOtherwise_73 : decode cX2_firstOtherwise 73 = .ok (.ireturn, 1) := by decide +kernel
theorem dX2_countOf_0 : decode cX2_countOf 0 = .ok (.iload_n 1, 1) := by decide +kernel
theorem dX2_countOf_1 : decode cX2_countOf 1 = .ok (.tableswitch 189 0 13 #[71, 77, 82, 87, 95, 104, 113, 122, 131, 140, 149, 158, 167, 181], 71) := by decide +kernel
theorem dX2_countOf_72 : decode cX2_countOf 72 = .ok (.aload_n 0, 1) := by decide +kernel
theorem dX2_countOf_73 : decode cX2_countOf 73 = .ok (.getfield 9, 3) := by decide +kernel
theorem dX2_countOf_76 : decode cX2_countOf 76 = .ok (.i2l, 1) := by decide +kernel
theorem dX2_countOf_77 : decode cX2_countOf 77 = .ok (.lreturn, 1) := by decide +kernel
theorem dX2_countOf_78 : decode cX2_countOf 78 = .ok (.aload_n 0, 1) := by decide +kernel
theorem dX2_countOf_79 : decode cX2_countOf 79 = .ok (.getfield 15, 3) := by decide +kernel
theorem dX2_countOf_82 : decode cX2_countOf 82 = .ok (.lreturn, 1) := by decide +kernel
theorem dX2_countOf_83 : decode cX2_countOf 83 = .ok (.aload_n 0, 1) := by decide +kernel
theorem dX2_countOf_84 : decode cX2_countOf 84 = .ok (.getfield 19, 3) := by decide +kernel
theorem dX2_countOf_87 : decode cX2_countOf 87 = .ok (.lreturn, 1) := by decide +kernel
theorem dX2_countOf_88 : decode cX2_countOf 88 = .ok (.aload_n 0, 1) := by decide +kernel
theorem dX2_countOf_89 : decode cX2_countOf 89 = .ok (.getfield 42, 3) := by decide +kernel
theorem dX2_countOf_92 : decode cX2_countOf 92 = .ok (.getfield 46, 3) := by decide +kernel
theorem dX2_countOf_95 : decode cX2_countOf 95 = .ok (.lreturn, 1) := by decide +kernel
theorem dX2_countOf_96 : decode cX2_countOf 96 = .ok (.aload_n 0, 1) := by decide +kernel
theorem dX2_countOf_97 : decode cX2_countOf 97 = .ok (.getfield 42, 3) := by decide +kernel
theorem dX2_countOf_100 : decode cX2_countOf 100 = .ok (.getfield 85, 3) := by decide +kernel
theorem dX2_countOf_103 : decode cX2_countOf 103 = .ok (.i2l, 1) := by decide +kernel
theorem dX2_countOf_104 : decode cX2_countOf 104 = .ok (.lreturn, 1) := by decide +kernel
theorem dX2_countOf_105 : decode cX2_countOf 105 = .ok (.aload_n 0, 1) := by decide +kernel
theorem dX2_countOf_106 : decode cX2_countOf 106 = .ok (.getfield 42, 3) := by decide +kernel
theorem dX2_countOf_109 : decode cX2_countOf 109 = .ok (.getfield 76, 3) := by decide +kernel
theorem dX2_countOf_112 : decode cX2_countOf 112 = .ok (.i2l, 1) := by decide +kernel
theorem dX2_countOf_113 : decode cX2_countOf 113 = .ok (.lreturn, 1) := by decide +kernel
theorem dX2_countOf_114 : decode cX2_countOf 114 = .ok (.aload_n 0, 1) := by decide +kernel
theorem dX2_countOf_115 : decode cX2_countOf 115 = .ok (.getfield 42, 3) := by decide +kernel
theorem dX2_countOf_118 : decode cX2_countOf 118 = .ok (.getfield 82, 3) := by decide +kernel
theorem dX2_countOf_121 : decode cX2_countOf 121 = .ok (.i2l, 1) := by decide +kernel
theorem dX2_countOf_122 : decode cX2_countOf 122 = .ok (.lreturn, 1) := by decide +kernel
theorem dX2_countOf_123 : decode cX2_countOf 123 = .ok (.aload_n 0, 1) := by decide +kernel
theorem dX2_countOf_124 : decode cX2_countOf 124 = .ok (.getfield 42, 3) := by decide +kernel
theorem dX2_countOf_127 : decode cX2_countOf 127 = .ok (.getfield 157, 3) := by decide +kernel
theorem dX2_countOf_130 : decode cX2_countOf 130 = .ok (.i2l, 1) := by decide +kernel
theorem dX2_countOf_131 : decode cX2_countOf 131 = .ok (.lreturn, 1) := by decide +kernel
theorem dX2_countOf_132 : decode cX2_countOf 132 = .ok (.aload_n 0, 1) := by decide +kernel
theorem dX2_countOf_133 : decode cX2_countOf 133 = .ok (.getfield 42, 3) := by decide +kernel
theorem dX2_countOf_136 : decode cX2_countOf 136 = .ok (.getfield 65, 3) := by decide +kernel
theorem dX2_countOf_139 : decode cX2_countOf 139 = .ok (.i2l, 1) := by decide +kernel
theorem dX2_countOf_140 : decode cX2_countOf 140 = .ok (.lreturn, 1) := by decide +kernel
theorem dX2_countOf_141 : decode cX2_countOf 141 = .ok (.aload_n 0, 1) := by decide +kernel
theorem dX2_countOf_142 : decode cX2_countOf 142 = .ok (.getfield 42, 3) := by decide +kernel
theorem dX2_countOf_145 : decode cX2_countOf 145 = .ok (.getfield 205, 3) := by decide +kernel
theorem dX2_countOf_148 : decode cX2_countOf 148 = .ok (.i2l, 1) := by decide +kernel
theorem dX2_countOf_149 : decode cX2_countOf 149 = .ok (.lreturn, 1) := by decide +kernel
theorem dX2_countOf_150 : decode cX2_countOf 150 = .ok (.aload_n 0, 1) := by decide +kernel
theorem dX2_countOf_151 : decode cX2_countOf 151 = .ok (.getfield 42, 3) := by decide +kernel
theorem dX2_countOf_154 : decode cX2_countOf 154 = .ok (.invokevirtual 273, 3) := by decide +kernel
theorem dX2_countOf_157 : decode cX2_countOf 157 = .ok (.i2l, 1) := by decide +kernel
theorem dX2_countOf_158 : decode cX2_countOf 158 = .ok (.lreturn, 1) := by decide +kernel
theorem dX2_countOf_159 : decode cX2_countOf 159 = .ok (.aload_n 0, 1) := by decide +kernel
theorem dX2_countOf_160 : decode cX2_countOf 160 = .ok (.getfield 42, 3) := by decide +kernel
theorem dX2_countOf_163 : decode cX2_countOf 163 = .ok (.getfield 116, 3) := by decide +kernel
theorem dX2_countOf_166 : decode cX2_countOf 166 = .ok (.i2l, 1) := by decide +kernel
theorem dX2_countOf_167 : decode cX2_countOf 167 = .ok (.lreturn, 1) := by decide +kernel
theorem dX2_countOf_168 : decode cX2_countOf 168 = .ok (.aload_n 0, 1) := by decide +kernel
theorem dX2_countOf_169 : decode cX2_countOf 169 = .ok (.getfield 42, 3) := by decide +kernel
theorem dX2_countOf_172 : decode cX2_countOf 172 = .ok (.getfield 76, 3) := by decide +kernel
theorem dX2_countOf_175 : decode cX2_countOf 175 = .ok (.aload_n 0, 1) := by decide +kernel
theorem dX2_countOf_176 : decode cX2_countOf 176 = .ok (.getfield 79, 3) := by decide +kernel
theorem dX2_countOf_179 : decode cX2_countOf 179 = .ok (.isub, 1) := by decide +kernel
theorem dX2_countOf_180 : decode cX2_countOf 180 = .ok (.i2l, 1) := by decide +kernel
theorem dX2_countOf_181 : decode cX2_countOf 181 = .ok (.lreturn, 1) := by decide +kernel
theorem dX2_countOf_182 : decode cX2_countOf 182 = .ok (.aload_n 0, 1) := by decide +kernel
theorem dX2_countOf_183 : decode cX2_countOf 183 = .ok (.getfield 42, 3) := by decide +kernel
theorem dX2_countOf_186 : decode cX2_countOf 186 = .ok (.getfield 188, 3) := by decide +kernel
theorem dX2_countOf_189 : decode cX2_countOf 189 = .ok (.lreturn, 1) := by decide +kernel
theorem dX2_countOf_190 : decode cX2_countOf 190 = .ok (.ldc2_w 271, 3) := by decide +kernel
theorem dX2_countOf_193 : decode cX2_countOf 193 = .ok (.lreturn, 1) := by decide +kernel
theorem dX3_init_0 : decode cX3_init 0 = .ok (.aload_n 0, 1) := by decide +kernel
theorem dX3_init_1 : decode cX3_init 1 = .ok (.invokespecial 1, 3) := by decide +kernel
theorem dX3_init_4 : decode cX3_init 4 = .ok (.return_, 1) := by decide +kernel
theorem dX3_copyFrom_0 : decode cX3_copyFrom 0 = .ok (.aload_n 0, 1) := by decide +kernel
theorem dX3_copyFrom_1 : decode cX3_copyFrom 1 = .ok (.aload_n 1, 1) := by decide +kernel
theorem dX3_copyFrom_2 : decode cX3_copyFrom 2 = .ok (.getfield 7, 3) := by decide +kernel
theorem dX3_copyFrom_5 : decode cX3_copyFrom 5 = .ok (.putfield 7, 3) := by decide +kernel
theorem dX3_copyFrom_8 : decode cX3_copyFrom 8 = .ok (.aload_n 0, 1) := by decide +kernel
theorem dX3_copyFrom_9 : decode cX3_copyFrom 9 = .ok (.aload_n 1, 1) := by decide +kernel
theorem dX3_copyFrom_10 : decode cX3_copyFrom 10 = .ok (.getfield 13, 3) := by decide +kernel
theorem dX3_copyFrom_13 : decode cX3_copyFrom 13 = .ok (.putfield 13, 3) := by decide +kernel
theorem dX3_copyFrom_16 : decode cX3_copyFrom 16 = .ok (.aload_n 0, 1) := by decide +kernel
theorem dX3_copyFrom_17 : decode cX3_copyFrom 17 = .ok (.aload_n 1, 1) := by decide +kernel
theorem dX3_copyFrom_18 : decode cX3_copyFrom 18 = .ok (.getfield 16, 3) := by decide +kernel
theorem dX3_copyFrom_21 : decode cX3_copyFrom 21 = .ok (.putfield 16, 3) := by decide +kernel
theorem dX3_copyFrom_24 : decode cX3_copyFrom 24 = .ok (.aload_n 0, 1) := by decide +kernel
theorem dX3_copyFrom_25 : decode cX3_copyFrom 25 = .ok (.aload_n 1, 1) := by decide +kernel
theorem dX3_copyFrom_26 : decode cX3_copyFrom 26 = .ok (.getfield 20, 3) := by decide +kernel
theorem dX3_copyFrom_29 : decode cX3_copyFrom 29 = .ok (.putfield 20, 3) := by decide +kernel
theorem dX3_copyFrom_32 : decode cX3_copyFrom 32 = .ok (.aload_n 0, 1) := by decide +kernel
theorem dX3_copyFrom_33 : decode cX3_copyFrom 33 = .ok (.aload_n 1, 1) := by decide +kernel
theorem dX3_copyFrom_34 : decode cX3_copyFrom 34 = .ok (.getfield 23, 3) := by decide +kernel
theorem dX3_copyFrom_37 : decode cX3_copyFrom 37 = .ok (.putfield 23, 3) := by decide +kernel
theorem dX3_copyFrom_40 : decode cX3_copyFrom 40 = .ok (.return_, 1) := by decide +kernel
theorem dX4_init_0 : decode cX4_init 0 = .ok (.aload_n 0, 1) := by decide +kernel
theorem dX4_init_1 : decode cX4_init 1 = .ok (.invokespecial 1, 3) := by decide +kernel
theorem dX4_init_4 : decode cX4_init 4 = .ok (.aload_n 0, 1) := by decide +kernel
theorem dX4_init_5 : decode cX4_init 5 = .ok (.bipush 40, 2) := by decide +kernel
theorem dX4_init_7 : decode cX4_init 7 = .ok (.anewarray 9, 3) := by decide +kernel
theorem dX4_init_10 : decode cX4_init 10 = .ok (.putfield 11, 3) := by decide +kernel
theorem dX4_init_13 : decode cX4_init 13 = .ok (.aload_n 0, 1) := by decide +kernel
theorem dX4_init_14 : decode cX4_init 14 = .ok (.sipush 180, 3) := by decide +kernel
theorem dX4_init_17 : decode cX4_init 17 = .ok (.newarray .long, 2) := by decide +kernel
theorem dX4_init_19 : decode cX4_init 19 = .ok (.putfield 15, 3) := by decide +kernel
theorem dX4_init_22 : decode cX4_init 22 = .ok (.return_, 1) := by decide +kernel
theorem dX4_ring_0 : decode cX4_ring 0 = .ok (.iload_n 1, 1) := by decide +kernel
theorem dX4_ring_1 : decode cX4_ring 1 = .ok (.i2l, 1) := by decide +kernel
theorem dX4_ring_2 : decode cX4_ring 2 = .ok (.lconst 0, 1) := by decide +kernel
theorem dX4_ring_3 : decode cX4_ring 3 = .ok (.ldc2_w 19, 3) := by decide +kernel
theorem dX4_ring_6 : decode cX4_ring 6 = .ok (.invokestatic 21, 3) := by decide +kernel
theorem dX4_ring_9 : decode cX4_ring 9 = .ok (.ifCond .eq 44, 3) := by decide +kernel
theorem dX4_ring_12 : decode cX4_ring 12 = .ok (.iload_n 2, 1) := by decide +kernel
theorem dX4_ring_13 : decode cX4_ring 13 = .ok (.i2l, 1) := by decide +kernel
theorem dX4_ring_14 : decode cX4_ring 14 = .ok (.lconst 1, 1) := by decide +kernel
theorem dX4_ring_15 : decode cX4_ring 15 = .ok (.ldc2_w 25, 3) := by decide +kernel
theorem dX4_ring_18 : decode cX4_ring 18 = .ok (.invokestatic 21, 3) := by decide +kernel
theorem dX4_ring_21 : decode cX4_ring 21 = .ok (.ifCond .eq 32, 3) := by decide +kernel
theorem dX4_ring_24 : decode cX4_ring 24 = .ok (.iload_n 3, 1) := by decide +kernel
theorem dX4_ring_25 : decode cX4_ring 25 = .ok (.i2l, 1) := by decide +kernel
theorem dX4_ring_26 : decode cX4_ring 26 = .ok (.lconst 0, 1) := by decide +kernel
theorem dX4_ring_27 : decode cX4_ring 27 = .ok (.ldc2_w 25, 3) := by decide +kernel
theorem dX4_ring_30 : decode cX4_ring 30 = .ok (.invokestatic 21, 3) := by decide +kernel
theorem dX4_ring_33 : decode cX4_ring 33 = .ok (.ifCond .eq 20, 3) := by decide +kernel
theorem dX4_ring_36 : decode cX4_ring 36 = .ok (.iload 4, 2) := by decide +kernel
theorem dX4_ring_38 : decode cX4_ring 38 = .ok (.i2l, 1) := by decide +kernel
theorem dX4_ring_39 : decode cX4_ring 39 = .ok (.lconst 0, 1) := by decide +kernel
theorem dX4_ring_40 : decode cX4_ring 40 = .ok (.ldc2_w 27, 3) := by decide +kernel
theorem dX4_ring_43 : decode cX4_ring 43 = .ok (.invokestatic 21, 3) := by decide +kernel
theorem dX4_ring_46 : decode cX4_ring 46 = .ok (.ifCond .eq 7, 3) := by decide +kernel
theorem dX4_ring_49 : decode cX4_ring 49 = .ok (.iconst 1, 1) := by decide +kernel
theorem dX4_ring_50 : decode cX4_ring 50 = .ok (.goto 4, 3) := by decide +kernel
theorem dX4_ring_53 : decode cX4_ring 53 = .ok (.iconst 0, 1) := by decide +kernel
theorem dX4_ring_54 : decode cX4_ring 54 = .ok (.istore 5, 2) := by decide +kernel
theorem dX4_ring_56 : decode cX4_ring 56 = .ok (.iload 5, 2) := by decide +kernel
theorem dX4_ring_58 : decode cX4_ring 58 = .ok (.ifCond .eq 12, 3) := by decide +kernel
theorem dX4_ring_61 : decode cX4_ring 61 = .ok (.aload_n 0, 1) := by decide +kernel
theorem dX4_ring_62 : decode cX4_ring 62 = .ok (.getfield 29, 3) := by decide +kernel
theorem dX4_ring_65 : decode cX4_ring 65 = .ok (.bipush 40, 2) := by decide +kernel
theorem dX4_ring_67 : decode cX4_ring 67 = .ok (.if_icmp .lt 5, 3) := by decide +kernel
theorem dX4_ring_70 : decode cX4_ring 70 = .ok (.iconst (-1), 1) := by decide +kernel
theorem dX4_ring_71 : decode cX4_ring 71 = .ok (.ireturn, 1) := by decide +kernel
theorem dX4_ring_72 : decode cX4_ring 72 = .ok (.aload_n 0, 1) := by decide +kernel
theorem dX4_ring_73 : decode cX4_ring 73 = .ok (.new 9, 3) := by decide +kernel
theorem dX4_ring_76 : decode cX4_ring 76 = .ok (.dup, 1) := by decide +kernel
theorem dX4_ring_77 : decode cX4_ring 77 = .ok (.iload_n 1, 1) := by decide +kernel
theorem dX4_ring_78 : decode cX4_ring 78 = .ok (.iload_n 2, 1) := by decide +kernel
theorem dX4_ring_79 : decode cX4_ring 79 = .ok (.i2l, 1) := by decide +kernel
theorem dX4_ring_80 : decode cX4_ring 80 = .ok (.iload_n 3, 1) := by decide +kernel
theorem dX4_ring_81 : decode cX4_ring 81 = .ok (.i2l, 1) := by decide +kernel
theorem dX4_ring_82 : decode cX4_ring 82 = .ok (.iload 4, 2) := by decide +kernel
theorem dX4_ring_84 : decode cX4_ring 84 = .ok (.i2l, 1) := by decide +kernel
theorem dX4_ring_85 : decode cX4_ring 85 = .ok (.invokespecial 33, 3) := by decide +kernel
theorem dX4_ring_88 : decode cX4_ring 88 = .ok (.invokevirtual 36, 3) := by decide +kernel
theorem dX4_ring_91 : decode cX4_ring 91 = .ok (.ireturn, 1) := by decide +kernel
theorem dX4_seat_0 : decode cX4_seat 0 = .ok (.aload_n 0, 1) := by decide +kernel
theorem dX4_seat_1 : decode cX4_seat 1 = .ok (.iload_n 1, 1) := by decide +kernel
theorem dX4_seat_2 : decode cX4_seat 2 = .ok (.invokevirtual 40, 3) := by decide +kernel
theorem dX4_seat_5 : decode cX4_seat 5 = .ok (.astore 5, 2) := by decide +kernel
theorem dX4_seat_7 : decode cX4_seat 7 = .ok (.aload 5, 2) := by decide +kernel
theorem dX4_seat_9 : decode cX4_seat 9 = .ok (.ifnonnull 7, 3) := by decide +kernel
theorem dX4_seat_12 : decode cX4_seat 12 = .ok (.iconst 1, 1) := by decide +kernel
theorem dX4_seat_13 : decode cX4_seat 13 = .ok (.goto 12, 3) := by decide +kernel
theorem dX4_seat_16 : decode cX4_seat 16 = .ok (.aload 5, 2) := by decide +kernel
theorem dX4_seat_18 : decode cX4_seat 18 = .ok (.iload_n 2, 1) := by decide +kernel
theorem dX4_seat_19 : decode cX4_seat 19 = .ok (.iload_n 3, 1) := by decide +kernel
theorem dX4_seat_20 : decode cX4_seat 20 = .ok (.iload 4, 2) := by decide +kernel
theorem dX4_seat_22 : decode cX4_seat 22 = .ok (.invokevirtual 44, 3) := by decide +kernel
theorem dX4_seat_25 : decode cX4_seat 25 = .ok (.ireturn, 1) := by decide +kernel
theorem dX4_letter_0 : decode cX4_letter 0 = .ok (.aload_n 0, 1) := by decide +kernel
theorem dX4_letter_1 : decode cX4_letter 1 = .ok (.iload_n 1, 1) := by decide +kernel
theorem dX4_letter_2 : decode cX4_letter 2 = .ok (.invokevirtual 40, 3) := by decide +kernel
theorem dX4_letter_5 : decode cX4_letter 5 = .ok (.astore_n 3, 1) := by decide +kernel
theorem dX4_letter_6 : decode cX4_letter 6 = .ok (.aload_n 3, 1) := by decide +kernel
theorem dX4_letter_7 : decode cX4_letter 7 = .ok (.ifnonnull 7, 3) := by decide +kernel
theorem dX4_letter_10 : decode cX4_letter 10 = .ok (.iconst 0, 1) := by decide +kernel
theorem dX4_letter_11 : decode cX4_letter 11 = .ok (.goto 11, 3) := by decide +kernel
theorem dX4_letter_14 : decode cX4_letter 14 = .ok (.aload_n 3, 1) := by decide +kernel
theorem dX4_letter_15 : decode cX4_letter 15 = .ok (.getfield 48, 3) := by decide +kernel
theorem dX4_letter_18 : decode cX4_letter 18 = .ok (.iload_n 2, 1) := by decide +kernel
theorem dX4_letter_19 : decode cX4_letter 19 = .ok (.invokevirtual 52, 3) := by decide +kernel
theorem dX4_letter_22 : decode cX4_letter 22 = .ok (.ireturn, 1) := by decide +kernel
theorem dX4_answers_0 : decode cX4_answers 0 = .ok (.aload_n 0, 1) := by decide +kernel
theorem dX4_answers_1 : decode cX4_answers 1 = .ok (.iload_n 1, 1) := by decide +kernel
theorem dX4_answers_2 : decode cX4_answers 2 = .ok (.invokevirtual 40, 3) := by decide +kernel
theorem dX4_answers_5 : decode cX4_answers 5 = .ok (.astore 4, 2) := by decide +kernel
theorem dX4_answers_7 : decode cX4_answers 7 = .ok (.aload 4, 2) := by decide +kernel
theorem dX4_answers_9 : decode cX4_answers 9 = .ok (.ifnonnull 7, 3) := by decide +kernel
theorem dX4_answers_12 : decode cX4_answers 12 = .ok (.iconst 1, 1) := by decide +kernel
theorem dX4_answers_13 : decode cX4_answers 13 = .ok (.goto 10, 3) := by decide +kernel
theorem dX4_answers_16 : decode cX4_answers 16 = .ok (.aload 4, 2) := by decide +kernel
theorem dX4_answers_18 : decode cX4_answers 18 = .ok (.iload_n 2, 1) := by decide +kernel
theorem dX4_answers_19 : decode cX4_answers 19 = .ok (.iload_n 3, 1) := by decide +kernel
theorem dX4_answers_20 : decode cX4_answers 20 = .ok (.invokevirtual 58, 3) := by decide +kernel
theorem dX4_answers_23 : decode cX4_answers 23 = .ok (.ireturn, 1) := by decide +kernel
theorem dX4_order_0 : decode cX4_order 0 = .ok (.aload_n 0, 1) := by decide +kernel
theorem dX4_order_1 : decode cX4_order 1 = .ok (.iload_n 1, 1) := by decide +kernel
theorem dX4_order_2 : decode cX4_order 2 = .ok (.invokevirtual 40, 3) := by decide +kernel
theorem dX4_order_5 : decode cX4_order 5 = .ok (.astore_n 3, 1) := by decide +kernel
theorem dX4_order_6 : decode cX4_order 6 = .ok (.aload_n 3, 1) := by decide +kernel
theorem dX4_order_7 : decode cX4_order 7 = .ok (.ifnonnull 7, 3) := by decide +kernel
theorem dX4_order_10 : decode cX4_order 10 = .ok (.iconst 1, 1) := by decide +kernel
theorem dX4_order_11 : decode cX4_order 11 = .ok (.goto 8, 3) := by decide +kernel
theorem dX4_order_14 : decode cX4_order 14 = .ok (.aload_n 3, 1) := by decide +kernel
theorem dX4_order_15 : decode cX4_order 15 = .ok (.iload_n 2, 1) := by decide +kernel
theorem dX4_order_16 : decode cX4_order 16 = .ok (.invokevirtual 62, 3) := by decide +kernel
theorem dX4_order_19 : decode cX4_order 19 = .ok (.ireturn, 1) := by decide +kernel
theorem dX4_lot_0 : decode cX4_lot 0 = .ok (.aload_n 0, 1) := by decide +kernel
theorem dX4_lot_1 : decode cX4_lot 1 = .ok (.iload_n 1, 1) := by decide +kernel
theorem dX4_lot_2 : decode cX4_lot 2 = .ok (.invokevirtual 40, 3) := by decide +kernel
theorem dX4_lot_5 : decode cX4_lot 5 = .ok (.astore_n 3, 1) := by decide +kernel
theorem dX4_lot_6 : decode cX4_lot 6 = .ok (.aload_n 3, 1) := by decide +kernel
theorem dX4_lot_7 : decode cX4_lot 7 = .ok (.ifnonnull 7, 3) := by decide +kernel
theorem dX4_lot_10 : decode cX4_lot 10 = .ok (.iconst 1, 1) := by decide +kernel
theorem dX4_lot_11 : decode cX4_lot 11 = .ok (.goto 8, 3) := by decide +kernel
theorem dX4_lot_14 : decode cX4_lot 14 = .ok (.aload_n 3, 1) := by decide +kernel
theorem dX4_lot_15 : decode cX4_lot 15 = .ok (.iload_n 2, 1) := by decide +kernel
theorem dX4_lot_16 : decode cX4_lot 16 = .ok (.invokevirtual 65, 3) := by decide +kernel
theorem dX4_lot_19 : decode cX4_lot 19 = .ok (.ireturn, 1) := by decide +kernel
theorem dX4_open_0 : decode cX4_open 0 = .ok (.aload_n 0, 1) := by decide +kernel
theorem dX4_open_1 : decode cX4_open 1 = .ok (.iload_n 1, 1) := by decide +kernel
theorem dX4_open_2 : decode cX4_open 2 = .ok (.invokevirtual 40, 3) := by decide +kernel
theorem dX4_open_5 : decode cX4_open 5 = .ok (.astore_n 2, 1) := by decide +kernel
theorem dX4_open_6 : decode cX4_open 6 = .ok (.aload_n 2, 1) := by decide +kernel
theorem dX4_open_7 : decode cX4_open 7 = .ok (.ifnonnull 7, 3) := by decide +kernel
theorem dX4_open_10 : decode cX4_open 10 = .ok (.iconst 1, 1) := by decide +kernel
theorem dX4_open_11 : decode cX4_open 11 = .ok (.goto 7, 3) := by decide +kernel
theorem dX4_open_14 : decode cX4_open 14 = .ok (.aload_n 2, 1) := by decide +kernel
theorem dX4_open_15 : decode cX4_open 15 = .ok (.invokevirtual 68, 3) := by decide +kernel
theorem dX4_open_18 : decode cX4_open 18 = .ok (.ireturn, 1) := by decide +kernel
theorem dX4_deposit_0 : decode cX4_deposit 0 = .ok (.aload_n 0, 1) := by decide +kernel
theorem dX4_deposit_1 : decode cX4_deposit 1 = .ok (.iload_n 1, 1) := by decide +kernel
theorem dX4_deposit_2 : decode cX4_deposit 2 = .ok (.invokevirtual 40, 3) := by decide +kernel
theorem dX4_deposit_5 : decode cX4_deposit 5 = .ok (.astore 4, 2) := by decide +kernel
theorem dX4_deposit_7 : decode cX4_deposit 7 = .ok (.aload 4, 2) := by decide +kernel
theorem dX4_deposit_9 : decode cX4_deposit 9 = .ok (.ifnonnull 7, 3) := by decide +kernel
theorem dX4_deposit_12 : decode cX4_deposit 12 = .ok (.iconst 1, 1) := by decide +kernel
theorem dX4_deposit_13 : decode cX4_deposit 13 = .ok (.goto 10, 3) := by decide +kernel
theorem dX4_deposit_16 : decode cX4_deposit 16 = .ok (.aload 4, 2) := by decide +kernel
theorem dX4_deposit_18 : decode cX4_deposit 18 = .ok (.iload_n 2, 1) := by decide +kernel
theorem dX4_deposit_19 : decode cX4_deposit 19 = .ok (.iload_n 3, 1) := by decide +kernel
theorem dX4_deposit_20 : decode cX4_deposit 20 = .ok (.invokevirtual 72, 3) := by decide +kernel
theorem dX4_deposit_23 : decode cX4_deposit 23 = .ok (.ireturn, 1) := by decide +kernel
theorem dX4_row_0 : decode cX4_row 0 = .ok (.aload_n 0, 1) := by decide +kernel
theorem dX4_row_1 : decode cX4_row 1 = .ok (.iload_n 1, 1) := by decide +kernel
theorem dX4_row_2 : decode cX4_row 2 = .ok (.invokevirtual 40, 3) := by decide +kernel
theorem dX4_row_5 : decode cX4_row 5 = .ok (.astore_n 3, 1) := by decide +kernel
theorem dX4_row_6 : decode cX4_row 6 = .ok (.aload_n 3, 1) := by decide +kernel
theorem dX4_row_7 : decode cX4_row 7 = .ok (.ifnonnull 7, 3) := by decide +kernel
theorem dX4_row_10 : decode cX4_row 10 = .ok (.iconst 1, 1) := by decide +kernel
theorem dX4_row_11 : decode cX4_row 11 = .ok (.goto 8, 3) := by decide +kernel
theorem dX4_row_14 : decode cX4_row 14 = .ok (.aload_n 3, 1) := by decide +kernel
theorem dX4_row_15 : decode cX4_row 15 = .ok (.iload_n 2, 1) := by decide +kernel
theorem dX4_row_16 : decode cX4_row 16 = .ok (.invokevirtual 75, 3) := by decide +kernel
theorem dX4_row_19 : decode cX4_row 19 = .ok (.ireturn, 1) := by decide +kernel
theorem dX4_tear_0 : decode cX4_tear 0 = .ok (.aload_n 0, 1) := by decide +kernel
theorem dX4_tear_1 : decode cX4_tear 1 = .ok (.iload_n 1, 1) := by decide +kernel
theorem dX4_tear_2 : decode cX4_tear 2 = .ok (.invokevirtual 40, 3) := by decide +kernel
theorem dX4_tear_5 : decode cX4_tear 5 = .ok (.astore_n 2, 1) := by decide +kernel
theorem dX4_tear_6 : decode cX4_tear 6 = .ok (.aload_n 2, 1) := by decide +kernel
theorem dX4_tear_7 : decode cX4_tear 7 = .ok (.ifnonnull 7, 3) := by decide +kernel
theorem dX4_tear_10 : decode cX4_tear 10 = .ok (.iconst 1, 1) := by decide +kernel
theorem dX4_tear_11 : decode cX4_tear 11 = .ok (.goto 7, 3) := by decide +kernel
theorem dX4_tear_14 : decode cX4_tear 14 = .ok (.aload_n 2, 1) := by decide +kernel
theorem dX4_tear_15 : decode cX4_tear 15 = .ok (.invokevirtual 78, 3) := by decide +kernel
theorem dX4_tear_18 : decode cX4_tear 18 = .ok (.ireturn, 1) := by decide +kernel
theorem dX4_pay_0 : decode cX4_pay 0 = .ok (.aload_n 0, 1) := by decide +kernel
theorem dX4_pay_1 : decode cX4_pay 1 = .ok (.iload_n 1, 1) := by decide +kernel
theorem dX4_pay_2 : decode cX4_pay 2 = .ok (.invokevirtual 40, 3) := by decide +kernel
theorem dX4_pay_5 : decode cX4_pay 5 = .ok (.astore 4, 2) := by decide +kernel
theorem dX4_pay_7 : decode cX4_pay 7 = .ok (.aload 4, 2) := by decide +kernel
theorem dX4_pay_9 : decode cX4_pay 9 = .ok (.ifnonnull 7, 3) := by decide +kernel
theorem dX4_pay_12 : decode cX4_pay 12 = .ok (.iconst 1, 1) := by decide +kernel
theorem dX4_pay_13 : decode cX4_pay 13 = .ok (.goto 10, 3) := by decide +kernel
theorem dX4_pay_16 : decode cX4_pay 16 = .ok (.aload 4, 2) := by decide +kernel
theorem dX4_pay_18 : decode cX4_pay 18 = .ok (.iload_n 2, 1) := by decide +kernel
theorem dX4_pay_19 : decode cX4_pay 19 = .ok (.iload_n 3, 1) := by decide +kernel
theorem dX4_pay_20 : decode cX4_pay 20 = .ok (.invokevirtual 81, 3) := by decide +kernel
theorem dX4_pay_23 : decode cX4_pay 23 = .ok (.ireturn, 1) := by decide +kernel
theorem dX4_came_0 : decode cX4_came 0 = .ok (.aload_n 0, 1) := by decide +kernel
theorem dX4_came_1 : decode cX4_came 1 = .ok (.iload_n 1, 1) := by decide +kernel
theorem dX4_came_2 : decode cX4_came 2 = .ok (.invokevirtual 40, 3) := by decide +kernel
theorem dX4_came_5 : decode cX4_came 5 = .ok (.astore_n 3, 1) := by decide +kernel
theorem dX4_came_6 : decode cX4_came 6 = .ok (.aload_n 3, 1) := by decide +kernel
theorem dX4_came_7 : decode cX4_came 7 = .ok (.ifnonnull 7, 3) := by decide +kernel
theorem dX4_came_10 : decode cX4_came 10 = .ok (.iconst (-1), 1) := by decide +kernel
theorem dX4_came_11 : decode cX4_came 11 = .ok (.goto 11, 3) := by decide +kernel
theorem dX4_came_14 : decode cX4_came 14 = .ok (.aload_n 3, 1) := by decide +kernel
theorem dX4_came_15 : decode cX4_came 15 = .ok (.getfield 48, 3) := by decide +kernel
theorem dX4_came_18 : decode cX4_came 18 = .ok (.iload_n 2, 1) := by decide +kernel
theorem dX4_came_19 : decode cX4_came 19 = .ok (.invokevirtual 84, 3) := by decide +kernel
theorem dX4_came_22 : decode cX4_came 22 = .ok (.ireturn, 1) := by decide +kernel
theorem dX4_late_0 : decode cX4_late 0 = .ok (.aload_n 0, 1) := by decide +kernel
theorem dX4_late_1 : decode cX4_late 1 = .ok (.iload_n 1, 1) := by decide +kernel
theorem dX4_late_2 : decode cX4_late 2 = .ok (.invokevirtual 40, 3) := by decide +kernel
theorem dX4_late_5 : decode cX4_late 5 = .ok (.astore_n 3, 1) := by decide +kernel
theorem dX4_late_6 : decode cX4_late 6 = .ok (.aload_n 3, 1) := by decide +kernel
theorem dX4_late_7 : decode cX4_late 7 = .ok (.ifnonnull 7, 3) := by decide +kernel
theorem dX4_late_10 : decode cX4_late 10 = .ok (.iconst 1, 1) := by decide +kernel
theorem dX4_late_11 : decode cX4_late 11 = .ok (.goto 8, 3) := by decide +kernel
theorem dX4_late_14 : decode cX4_late 14 = .ok (.aload_n 3, 1) := by decide +kernel
theorem dX4_late_15 : decode cX4_late 15 = .ok (.iload_n 2, 1) := by decide +kernel
theorem dX4_late_16 : decode cX4_late 16 = .ok (.invokevirtual 87, 3) := by decide +kernel
theorem dX4_late_19 : decode cX4_late 19 = .ok (.ireturn, 1) := by decide +kernel
theorem dX4_bid_0 : decode cX4_bid 0 = .ok (.aload_n 0, 1) := by decide +kernel
theorem dX4_bid_1 : decode cX4_bid 1 = .ok (.iload_n 1, 1) := by decide +kernel
theorem dX4_bid_2 : decode cX4_bid 2 = .ok (.invokevirtual 40, 3) := by decide +kernel
theorem dX4_bid_5 : decode cX4_bid 5 = .ok (.astore 5, 2) := by decide +kernel
theorem dX4_bid_7 : decode cX4_bid 7 = .ok (.aload 5, 2) := by decide +kernel
theorem dX4_bid_9 : decode cX4_bid 9 = .ok (.ifnonnull 7, 3) := by decide +kernel
theorem dX4_bid_12 : decode cX4_bid 12 = .ok (.iconst 1, 1) := by decide +kernel
theorem dX4_bid_13 : decode cX4_bid 13 = .ok (.goto 10, 3) := by decide +kernel
theorem dX4_bid_16 : decode cX4_bid 16 = .ok (.aload 5, 2) := by decide +kernel
theorem dX4_bid_18 : decode cX4_bid 18 = .ok (.iload_n 2, 1) := by decide +kernel
theorem dX4_bid_19 : decode cX4_bid 19 = .ok (.lload_n 3, 1) := by decide +kernel
theorem dX4_bid_20 : decode cX4_bid 20 = .ok (.invokevirtual 90, 3) := by decide +kernel
theorem dX4_bid_23 : decode cX4_bid 23 = .ok (.ireturn, 1) := by decide +kernel
theorem dX4_need_0 : decode cX4_need 0 = .ok (.aload_n 0, 1) := by decide +kernel
theorem dX4_need_1 : decode cX4_need 1 = .ok (.iload_n 1, 1) := by decide +kernel
theorem dX4_need_2 : decode cX4_need 2 = .ok (.invokevirtual 40, 3) := by decide +kernel
theorem dX4_need_5 : decode cX4_need 5 = .ok (.astore_n 3, 1) := by decide +kernel
theorem dX4_need_6 : decode cX4_need 6 = .ok (.aload_n 3, 1) := by decide +kernel
theorem dX4_need_7 : decode cX4_need 7 = .ok (.ifnonnull 7, 3) := by decide +kernel
theorem dX4_need_10 : decode cX4_need 10 = .ok (.iconst 1, 1) := by decide +kernel
theorem dX4_need_11 : decode cX4_need 11 = .ok (.goto 8, 3) := by decide +kernel
theorem dX4_need_14 : decode cX4_need 14 = .ok (.aload_n 3, 1) := by decide +kernel
theorem dX4_need_15 : decode cX4_need 15 = .ok (.iload_n 2, 1) := by decide +kernel
theorem dX4_need_16 : decode cX4_need 16 = .ok (.invokevirtual 94, 3) := by decide +kernel
theorem dX4_need_19 : decode cX4_need 19 = .ok (.ireturn, 1) := by decide +kernel
theorem dX4_yes_0 : decode cX4_yes 0 = .ok (.aload_n 0, 1) := by decide +kernel
theorem dX4_yes_1 : decode cX4_yes 1 = .ok (.iload_n 1, 1) := by decide +kernel
theorem dX4_yes_2 : decode cX4_yes 2 = .ok (.invokevirtual 40, 3) := by decide +kernel
theorem dX4_yes_5 : decode cX4_yes 5 = .ok (.astore_n 3, 1) := by decide +kernel
theorem dX4_yes_6 : decode cX4_yes 6 = .ok (.aload_n 3, 1) := by decide +kernel
theorem dX4_yes_7 : decode cX4_yes 7 = .ok (.ifnonnull 7, 3) := by decide +kernel
theorem dX4_yes_10 : decode cX4_yes 10 = .ok (.iconst 1, 1) := by decide +kernel
theorem dX4_yes_11 : decode cX4_yes 11 = .ok (.goto 8, 3) := by decide +kernel
theorem dX4_yes_14 : decode cX4_yes 14 = .ok (.aload_n 3, 1) := by decide +kernel
theorem dX4_yes_15 : decode cX4_yes 15 = .ok (.iload_n 2, 1) := by decide +kernel
theorem dX4_yes_16 : decode cX4_yes 16 = .ok (.invokevirtual 97, 3) := by decide +kernel
theorem dX4_yes_19 : decode cX4_yes 19 = .ok (.ireturn, 1) := by decide +kernel
theorem dX4_draw_0 : decode cX4_draw 0 = .ok (.aload_n 0, 1) := by decide +kernel
theorem dX4_draw_1 : decode cX4_draw 1 = .ok (.iload_n 1, 1) := by decide +kernel
theorem dX4_draw_2 : decode cX4_draw 2 = .ok (.invokevirtual 40, 3) := by decide +kernel
theorem dX4_draw_5 : decode cX4_draw 5 = .ok (.astore_n 2, 1) := by decide +kernel
theorem dX4_draw_6 : decode cX4_draw 6 = .ok (.aload_n 2, 1) := by decide +kernel
theorem dX4_draw_7 : decode cX4_draw 7 = .ok (.ifnonnull 7, 3) := by decide +kernel
theorem dX4_draw_10 : decode cX4_draw 10 = .ok (.iconst 1, 1) := by decide +kernel
theorem dX4_draw_11 : decode cX4_draw 11 = .ok (.goto 7, 3) := by decide +kernel
theorem dX4_draw_14 : decode cX4_draw 14 = .ok (.aload_n 2, 1) := by decide +kernel
theorem dX4_draw_15 : decode cX4_draw 15 = .ok (.invokevirtual 100, 3) := by decide +kernel
theorem dX4_draw_18 : decode cX4_draw 18 = .ok (.ireturn, 1) := by decide +kernel
theorem dX4_drawn_0 : decode cX4_drawn 0 = .ok (.aload_n 0, 1) := by decide +kernel
theorem dX4_drawn_1 : decode cX4_drawn 1 = .ok (.iload_n 1, 1) := by decide +kernel
theorem dX4_drawn_2 : decode cX4_drawn 2 = .ok (.invokevirtual 40, 3) := by decide +kernel
theorem dX4_drawn_5 : decode cX4_drawn 5 = .ok (.astore 4, 2) := by decide +kernel
theorem dX4_drawn_7 : decode cX4_drawn 7 = .ok (.aload 4, 2) := by decide +kernel
theorem dX4_drawn_9 : decode cX4_drawn 9 = .ok (.ifnonnull 9, 3) := by decide +kernel
theorem dX4_drawn_12 : decode cX4_drawn 12 = .ok (.ldc2_w 103, 3) := by decide +kernel
theorem dX4_drawn_15 : decode cX4_drawn 15 = .ok (.goto 10, 3) := by decide +kernel
theorem dX4_drawn_18 : decode cX4_drawn 18 = .ok (.aload 4, 2) := by decide +kernel
theorem dX4_drawn_20 : decode cX4_drawn 20 = .ok (.iload_n 2, 1) := by decide +kernel
theorem dX4_drawn_21 : decode cX4_drawn 21 = .ok (.iload_n 3, 1) := by decide +kernel
theorem dX4_drawn_22 : decode cX4_drawn 22 = .ok (.invokevirtual 105, 3) := by decide +kernel
theorem dX4_drawn_25 : decode cX4_drawn 25 = .ok (.lreturn, 1) := by decide +kernel
theorem dX4_stop_0 : decode cX4_stop 0 = .ok (.aload_n 0, 1) := by decide +kernel
theorem dX4_stop_1 : decode cX4_stop 1 = .ok (.iload_n 1, 1) := by decide +kernel
theorem dX4_stop_2 : decode cX4_stop 2 = .ok (.invokevirtual 40, 3) := by decide +kernel
theorem dX4_stop_5 : decode cX4_stop 5 = .ok (.astore_n 3, 1) := by decide +kernel
theorem dX4_stop_6 : decode cX4_stop 6 = .ok (.aload_n 3, 1) := by decide +kernel
theorem dX4_stop_7 : decode cX4_stop 7 = .ok (.ifnonnull 7, 3) := by decide +kernel
theorem dX4_stop_10 : decode cX4_stop 10 = .ok (.iconst 1, 1) := by decide +kernel
theorem dX4_stop_11 : decode cX4_stop 11 = .ok (.goto 8, 3) := by decide +kernel
theorem dX4_stop_14 : decode cX4_stop 14 = .ok (.aload_n 3, 1) := by decide +kernel
theorem dX4_stop_15 : decode cX4_stop 15 = .ok (.iload_n 2, 1) := by decide +kernel
theorem dX4_stop_16 : decode cX4_stop 16 = .ok (.invokevirtual 109, 3) := by decide +kernel
theorem dX4_stop_19 : decode cX4_stop 19 = .ok (.ireturn, 1) := by decide +kernel
theorem dX4_replace_0 : decode cX4_replace 0 = .ok (.aload_n 0, 1) := by decide +kernel
theorem dX4_replace_1 : decode cX4_replace 1 = .ok (.iload_n 1, 1) := by decide +kernel
theorem dX4_replace_2 : decode cX4_replace 2 = .ok (.invokevirtual 40, 3) := by decide +kernel
theorem dX4_replace_5 : decode cX4_replace 5 = .ok (.astore 4, 2) := by decide +kernel
theorem dX4_replace_7 : decode cX4_replace 7 = .ok (.aload 4, 2) := by decide +kernel
theorem dX4_replace_9 : decode cX4_replace 9 = .ok (.ifnonnull 7, 3) := by decide +kernel
theorem dX4_replace_12 : decode cX4_replace 12 = .ok (.iconst 1, 1) := by decide +kernel
theorem dX4_replace_13 : decode cX4_replace 13 = .ok (.goto 10, 3) := by decide +kernel
theorem dX4_replace_16 : decode cX4_replace 16 = .ok (.aload 4, 2) := by decide +kernel
theorem dX4_replace_18 : decode cX4_replace 18 = .ok (.iload_n 2, 1) := by decide +kernel
theorem dX4_replace_19 : decode cX4_replace 19 = .ok (.iload_n 3, 1) := by decide +kernel
theorem dX4_replace_20 : decode cX4_replace 20 = .ok (.invokevirtual 112, 3) := by decide +kernel
theorem dX4_replace_23 : decode cX4_replace 23 = .ok (.ireturn, 1) := by decide +kernel
theorem dX4_stops_0 : decode cX4_stops 0 = .ok (.aload_n 0, 1) := by decide +kernel
theorem dX4_stops_1 : decode cX4_stops 1 = .ok (.iload_n 1, 1) := by decide +kernel
theorem dX4_stops_2 : decode cX4_stops 2 = .ok (.invokevirtual 40, 3) := by decide +kernel
theorem dX4_stops_5 : decode cX4_stops 5 = .ok (.astore 4, 2) := by decide +kernel
theorem dX4_stops_7 : decode cX4_stops 7 = .ok (.aload 4, 2) := by decide +kernel
theorem dX4_stops_9 : decode cX4_stops 9 = .ok (.ifnonnull 9, 3) := by decide +kernel
theorem dX4_stops_12 : decode cX4_stops 12 = .ok (.ldc2_w 103, 3) := by decide +kernel
theorem dX4_stops_15 : decode cX4_stops 15 = .ok (.goto 10, 3) := by decide +kernel
theorem dX4_stops_18 : decode cX4_stops 18 = .ok (.aload 4, 2) := by decide +kernel
theorem dX4_stops_20 : decode cX4_stops 20 = .ok (.iload_n 2, 1) := by decide +kernel
theorem dX4_stops_21 : decode cX4_stops 21 = .ok (.iload_n 3, 1) := by decide +kernel
theorem dX4_stops_22 : decode cX4_stops 22 = .ok (.invokevirtual 115, 3) := by decide +kernel
theorem dX4_stops_25 : decode cX4_stops 25 = .ok (.lreturn, 1) := by decide +kernel
theorem dX4_close_0 : decode cX4_close 0 = .ok (.aload_n 0, 1) := by decide +kernel
theorem dX4_close_1 : decode cX4_close 1 = .ok (.iload_n 1, 1) := by decide +kernel
theorem dX4_close_2 : decode cX4_close 2 = .ok (.invokevirtual 40, 3) := by decide +kernel
theorem dX4_close_5 : decode cX4_close 5 = .ok (.astore_n 2, 1) := by decide +kernel
theorem dX4_close_6 : decode cX4_close 6 = .ok (.aload_n 2, 1) := by decide +kernel
theorem dX4_close_7 : decode cX4_close 7 = .ok (.ifnonnull 7, 3) := by decide +kernel
theorem dX4_close_10 : decode cX4_close 10 = .ok (.iconst 1, 1) := by decide +kernel
theorem dX4_close_11 : decode cX4_close 11 = .ok (.goto 7, 3) := by decide +kernel
theorem dX4_close_14 : decode cX4_close 14 = .ok (.aload_n 2, 1) := by decide +kernel
theorem dX4_close_15 : decode cX4_close 15 = .ok (.invokevirtual 118, 3) := by decide +kernel
theorem dX4_close_18 : decode cX4_close 18 = .ok (.ireturn, 1) := by decide +kernel
theorem dX4_fair_0 : decode cX4_fair 0 = .ok (.aload_n 0, 1) := by decide +kernel
theorem dX4_fair_1 : decode cX4_fair 1 = .ok (.iload_n 1, 1) := by decide +kernel
theorem dX4_fair_2 : decode cX4_fair 2 = .ok (.invokevirtual 40, 3) := by decide +kernel
theorem dX4_fair_5 : decode cX4_fair 5 = .ok (.astore_n 2, 1) := by decide +kernel
theorem dX4_fair_6 : decode cX4_fair 6 = .ok (.aload_n 2, 1) := by decide +kernel
theorem dX4_fair_7 : decode cX4_fair 7 = .ok (.ifnonnull 7, 3) := by decide +kernel
theorem dX4_fair_10 : decode cX4_fair 10 = .ok (.iconst (-1), 1) := by decide +kernel
theorem dX4_fair_11 : decode cX4_fair 11 = .ok (.goto 7, 3) := by decide +kernel
theorem dX4_fair_14 : decode cX4_fair 14 = .ok (.aload_n 2, 1) := by decide +kernel
theorem dX4_fair_15 : decode cX4_fair 15 = .ok (.invokevirtual 121, 3) := by decide +kernel
theorem dX4_fair_18 : decode cX4_fair 18 = .ok (.ireturn, 1) := by decide +kernel
theorem dX4_undo_0 : decode cX4_undo 0 = .ok (.aload_n 0, 1) := by decide +kernel
theorem dX4_undo_1 : decode cX4_undo 1 = .ok (.iload_n 1, 1) := by decide +kernel
theorem dX4_undo_2 : decode cX4_undo 2 = .ok (.invokevirtual 40, 3) := by decide +kernel
theorem dX4_undo_5 : decode cX4_undo 5 = .ok (.astore_n 2, 1) := by decide +kernel
theorem dX4_undo_6 : decode cX4_undo 6 = .ok (.aload_n 2, 1) := by decide +kernel
theorem dX4_undo_7 : decode cX4_undo 7 = .ok (.ifnonnull 7, 3) := by decide +kernel
theorem dX4_undo_10 : decode cX4_undo 10 = .ok (.iconst (-1), 1) := by decide +kernel
theorem dX4_undo_11 : decode cX4_undo 11 = .ok (.goto 7, 3) := by decide +kernel
theorem dX4_undo_14 : decode cX4_undo 14 = .ok (.aload_n 2, 1) := by decide +kernel
theorem dX4_undo_15 : decode cX4_undo 15 = .ok (.invokevirtual 124, 3) := by decide +kernel
theorem dX4_undo_18 : decode cX4_undo 18 = .ok (.ireturn, 1) := by decide +kernel
theorem dX4_image_0 : decode cX4_image 0 = .ok (.aload_n 0, 1) := by decide +kernel
theorem dX4_image_1 : decode cX4_image 1 = .ok (.iload_n 1, 1) := by decide +kernel
theorem dX4_image_2 : decode cX4_image 2 = .ok (.invokevirtual 40, 3) := by decide +kernel
theorem dX4_image_5 : decode cX4_image 5 = .ok (.astore_n 2, 1) := by decide +kernel
theorem dX4_image_6 : decode cX4_image 6 = .ok (.aload_n 2, 1) := by decide +kernel
theorem dX4_image_7 : decode cX4_image 7 = .ok (.ifnull 12, 3) := by decide +kernel
theorem dX4_image_10 : decode cX4_image 10 = .ok (.aload_n 0, 1) := by decide +kernel
theorem dX4_image_11 : decode cX4_image 11 = .ok (.getfield 29, 3) := by decide +kernel
theorem dX4_image_14 : decode cX4_image 14 = .ok (.bipush 40, 2) := by decide +kernel
theorem dX4_image_16 : decode cX4_image 16 = .ok (.if_icmp .lt 5, 3) := by decide +kernel
theorem dX4_image_19 : decode cX4_image 19 = .ok (.iconst (-1), 1) := by decide +kernel
theorem dX4_image_20 : decode cX4_image 20 = .ok (.ireturn, 1) := by decide +kernel
theorem dX4_image_21 : decode cX4_image 21 = .ok (.aload_n 0, 1) := by decide +kernel
theorem dX4_image_22 : decode cX4_image 22 = .ok (.aload_n 2, 1) := by decide +kernel
theorem dX4_image_23 : decode cX4_image 23 = .ok (.invokevirtual 127, 3) := by decide +kernel
theorem dX4_image_26 : decode cX4_image 26 = .ok (.invokevirtual 36, 3) := by decide +kernel
theorem dX4_image_29 : decode cX4_image 29 = .ok (.ireturn, 1) := by decide +kernel
theorem dX4_tell_0 : decode cX4_tell 0 = .ok (.aload_n 0, 1) := by decide +kernel
theorem dX4_tell_1 : decode cX4_tell 1 = .ok (.getfield 131, 3) := by decide +kernel
theorem dX4_tell_4 : decode cX4_tell 4 = .ok (.sipush 180, 3) := by decide +kernel
theorem dX4_tell_7 : decode cX4_tell 7 = .ok (.if_icmp .lt 5, 3) := by decide +kernel
theorem dX4_tell_10 : decode cX4_tell 10 = .ok (.iconst (-1), 1) := by decide +kernel
theorem dX4_tell_11 : decode cX4_tell 11 = .ok (.ireturn, 1) := by decide +kernel
theorem dX4_tell_12 : decode cX4_tell 12 = .ok (.aload_n 0, 1) := by decide +kernel
theorem dX4_tell_13 : decode cX4_tell 13 = .ok (.getfield 15, 3) := by decide +kernel
theorem dX4_tell_16 : decode cX4_tell 16 = .ok (.aload_n 0, 1) := by decide +kernel
theorem dX4_tell_17 : decode cX4_tell 17 = .ok (.getfield 131, 3) := by decide +kernel
theorem dX4_tell_20 : decode cX4_tell 20 = .ok (.lload_n 1, 1) := by decide +kernel
theorem dX4_tell_21 : decode cX4_tell 21 = .ok (.lastore, 1) := by decide +kernel
theorem dX4_tell_22 : decode cX4_tell 22 = .ok (.aload_n 0, 1) := by decide +kernel
theorem dX4_tell_23 : decode cX4_tell 23 = .ok (.dup, 1) := by decide +kernel
theorem dX4_tell_24 : decode cX4_tell 24 = .ok (.getfield 131, 3) := by decide +kernel
theorem dX4_tell_27 : decode cX4_tell 27 = .ok (.iconst 1, 1) := by decide +kernel
theorem dX4_tell_28 : decode cX4_tell 28 = .ok (.iadd, 1) := by decide +kernel
theorem dX4_tell_29 : decode cX4_tell 29 = .ok (.putfield 131, 3) := by decide +kernel
theorem dX4_tell_32 : decode cX4_tell 32 = .ok (.aload_n 0, 1) := by decide +kernel
theorem dX4_tell_33 : decode cX4_tell 33 = .ok (.getfield 131, 3) := by decide +kernel
theorem dX4_tell_36 : decode cX4_tell 36 = .ok (.ireturn, 1) := by decide +kernel
theorem dX4_check_0 : decode cX4_check 0 = .ok (.aload_n 0, 1) := by decide +kernel
theorem dX4_check_1 : decode cX4_check 1 = .ok (.getfield 131, 3) := by decide +kernel
theorem dX4_check_4 : decode cX4_check 4 = .ok (.istore_n 2, 1) := by decide +kernel
theorem dX4_check_5 : decode cX4_check 5 = .ok (.aload_n 0, 1) := by decide +kernel
theorem dX4_check_6 : decode cX4_check 6 = .ok (.iconst 0, 1) := by decide +kernel
theorem dX4_check_7 : decode cX4_check 7 = .ok (.putfield 131, 3) := by decide +kernel
theorem dX4_check_10 : decode cX4_check 10 = .ok (.aload_n 0, 1) := by decide +kernel
theorem dX4_check_11 : decode cX4_check 11 = .ok (.iload_n 1, 1) := by decide +kernel
theorem dX4_check_12 : decode cX4_check 12 = .ok (.invokevirtual 40, 3) := by decide +kernel
theorem dX4_check_15 : decode cX4_check 15 = .ok (.astore_n 3, 1) := by decide +kernel
theorem dX4_check_16 : decode cX4_check 16 = .ok (.aload_n 3, 1) := by decide +kernel
theorem dX4_check_17 : decode cX4_check 17 = .ok (.ifnull 16, 3) := by decide +kernel
theorem dX4_check_20 : decode cX4_check 20 = .ok (.iload_n 2, 1) := by decide +kernel
theorem dX4_check_21 : decode cX4_check 21 = .ok (.iconst 3, 1) := by decide +kernel
theorem dX4_check_22 : decode cX4_check 22 = .ok (.aload_n 3, 1) := by decide +kernel
theorem dX4_check_23 : decode cX4_check 23 = .ok (.getfield 48, 3) := by decide +kernel
theorem dX4_check_26 : decode cX4_check 26 = .ok (.getfield 134, 3) := by decide +kernel
theorem dX4_check_29 : decode cX4_check 29 = .ok (.imul, 1) := by decide +kernel
theorem dX4_check_30 : decode cX4_check 30 = .ok (.if_icmp .eq 6, 3) := by decide +kernel
theorem dX4_check_33 : decode cX4_check 33 = .ok (.bipush (-2), 2) := by decide +kernel
theorem dX4_check_35 : decode cX4_check 35 = .ok (.ireturn, 1) := by decide +kernel
theorem dX4_check_36 : decode cX4_check 36 = .ok (.aload_n 3, 1) := by decide +kernel
theorem dX4_check_37 : decode cX4_check 37 = .ok (.aload_n 0, 1) := by decide +kernel
theorem dX4_check_38 : decode cX4_check 38 = .ok (.getfield 15, 3) := by decide +kernel
theorem dX4_check_41 : decode cX4_check 41 = .ok (.invokevirtual 137, 3) := by decide +kernel
theorem dX4_check_44 : decode cX4_check 44 = .ok (.ireturn, 1) := by decide +kernel
theorem dX4_look_0 : decode cX4_look 0 = .ok (.aload_n 0, 1) := by decide +kernel
theorem dX4_look_1 : decode cX4_look 1 = .ok (.iload_n 1, 1) := by decide +kernel
theorem dX4_look_2 : decode cX4_look 2 = .ok (.invokevirtual 40, 3) := by decide +kernel
theorem dX4_look_5 : decode cX4_look 5 = .ok (.astore 4, 2) := by decide +kernel
theorem dX4_look_7 : decode cX4_look 7 = .ok (.aload 4, 2) := by decide +kernel
theorem dX4_look_9 : decode cX4_look 9 = .ok (.ifnonnull 9, 3) := by decide +kernel
theorem dX4_look_12 : decode cX4_look 12 = .ok (.ldc2_w 103, 3) := by decide +kernel
theorem dX4_look_15 : decode cX4_look 15 = .ok (.goto 13, 3) := by decide +kernel
theorem dX4_look_18 : decode cX4_look 18 = .ok (.aload 4, 2) := by decide +kernel
theorem dX4_look_20 : decode cX4_look 20 = .ok (.getfield 48, 3) := by decide +kernel
theorem dX4_look_23 : decode cX4_look 23 = .ok (.iload_n 2, 1) := by decide +kernel
theorem dX4_look_24 : decode cX4_look 24 = .ok (.iload_n 3, 1) := by decide +kernel
theorem dX4_look_25 : decode cX4_look 25 = .ok (.invokevirtual 141, 3) := by decide +kernel
theorem dX4_look_28 : decode cX4_look 28 = .ok (.lreturn, 1) := by decide +kernel
theorem dX4_as_0 : decode cX4_as 0 = .ok (.aload_n 0, 1) := by decide +kernel
theorem dX4_as_1 : decode cX4_as 1 = .ok (.iload_n 1, 1) := by decide +kernel
theorem dX4_as_2 : decode cX4_as 2 = .ok (.invokevirtual 40, 3) := by decide +kernel
theorem dX4_as_5 : decode cX4_as 5 = .ok (.astore 5, 2) := by decide +kernel
theorem dX4_as_7 : decode cX4_as 7 = .ok (.aload 5, 2) := by decide +kernel
theorem dX4_as_9 : decode cX4_as 9 = .ok (.ifnonnull 7, 3) := by decide +kernel
theorem dX4_as_12 : decode cX4_as 12 = .ok (.ldc2_w 103, 3) := by decide +kernel
theorem dX4_as_15 : decode cX4_as 15 = .ok (.lreturn, 1) := by decide +kernel
theorem dX4_as_16 : decode cX4_as 16 = .ok (.aload 5, 2) := by decide +kernel
theorem dX4_as_18 : decode cX4_as 18 = .ok (.iload_n 2, 1) := by decide +kernel
theorem dX4_as_19 : decode cX4_as 19 = .ok (.invokevirtual 144, 3) := by decide +kernel
theorem dX4_as_22 : decode cX4_as 22 = .ok (.astore 6, 2) := by decide +kernel
theorem dX4_as_24 : decode cX4_as 24 = .ok (.aload 6, 2) := by decide +kernel
theorem dX4_as_26 : decode cX4_as 26 = .ok (.ifnonnull 9, 3) := by decide +kernel
theorem dX4_as_29 : decode cX4_as 29 = .ok (.ldc2_w 103, 3) := by decide +kernel
theorem dX4_as_32 : decode cX4_as 32 = .ok (.goto 11, 3) := by decide +kernel
theorem dX4_as_35 : decode cX4_as 35 = .ok (.aload 6, 2) := by decide +kernel
theorem dX4_as_37 : decode cX4_as 37 = .ok (.iload_n 3, 1) := by decide +kernel
theorem dX4_as_38 : decode cX4_as 38 = .ok (.iload 4, 2) := by decide +kernel
theorem dX4_as_40 : decode cX4_as 40 = .ok (.invokevirtual 141, 3) := by decide +kernel
theorem dX4_as_43 : decode cX4_as 43 = .ok (.lreturn, 1) := by decide +kernel
theorem dX4_count_0 : decode cX4_count 0 = .ok (.iload_n 1, 1) := by decide +kernel
theorem dX4_count_1 : decode cX4_count 1 = .ok (.iconst (-1), 1) := by decide +kernel
theorem dX4_count_2 : decode cX4_count 2 = .ok (.if_icmp .ne 32, 3) := by decide +kernel
theorem dX4_count_5 : decode cX4_count 5 = .ok (.iload_n 2, 1) := by decide +kernel
theorem dX4_count_6 : decode cX4_count 6 = .ok (.ifCond .ne 11, 3) := by decide +kernel
theorem dX4_count_9 : decode cX4_count 9 = .ok (.aload_n 0, 1) := by decide +kernel
theorem dX4_count_10 : decode cX4_count 10 = .ok (.getfield 29, 3) := by decide +kernel
theorem dX4_count_13 : decode cX4_count 13 = .ok (.i2l, 1) := by decide +kernel
theorem dX4_count_14 : decode cX4_count 14 = .ok (.goto 19, 3) := by decide +kernel
theorem dX4_count_17 : decode cX4_count 17 = .ok (.iload_n 2, 1) := by decide +kernel
theorem dX4_count_18 : decode cX4_count 18 = .ok (.iconst 1, 1) := by decide +kernel
theorem dX4_count_19 : decode cX4_count 19 = .ok (.if_icmp .ne 11, 3) := by decide +kernel
theorem dX4_count_22 : decode cX4_count 22 = .ok (.aload_n 0, 1) := by decide +kernel
theorem dX4_count_23 : decode cX4_count 23 = .ok (.getfield 131, 3) := by decide +kernel
theorem dX4_count_26 : decode cX4_count 26 = .ok (.i2l, 1) := by decide +kernel
theorem dX4_count_27 : decode cX4_count 27 = .ok (.goto 6, 3) := by decide +kernel
theorem dX4_count_30 : decode cX4_count 30 = .ok (.ldc2_w 103, 3) := by decide +kernel
theorem dX4_count_33 : decode cX4_count 33 = .ok (.lreturn, 1) := by decide +kernel
theorem dX4_count_34 : decode cX4_count 34 = .ok (.aload_n 0, 1) := by decide +kernel
theorem dX4_count_35 : decode cX4_count 35 = .ok (.iload_n 1, 1) := by decide +kernel
theorem dX4_count_36 : decode cX4_count 36 = .ok (.invokevirtual 40, 3) := by decide +kernel
theorem dX4_count_39 : decode cX4_count 39 = .ok (.astore_n 3, 1) := by decide +kernel
theorem dX4_count_40 : decode cX4_count 40 = .ok (.aload_n 3, 1) := by decide +kernel
theorem dX4_count_41 : decode cX4_count 41 = .ok (.ifnonnull 9, 3) := by decide +kernel
theorem dX4_count_44 : decode cX4_count 44 = .ok (.ldc2_w 103, 3) := by decide +kernel
theorem dX4_count_47 : decode cX4_count 47 = .ok (.goto 8, 3) := by decide +kernel
theorem dX4_count_50 : decode cX4_count 50 = .ok (.aload_n 3, 1) := by decide +kernel
theorem dX4_count_51 : decode cX4_count 51 = .ok (.iload_n 2, 1) := by decide +kernel
theorem dX4_count_52 : decode cX4_count 52 = .ok (.invokevirtual 148, 3) := by decide +kernel
theorem dX4_count_55 : decode cX4_count 55 = .ok (.lreturn, 1) := by decide +kernel
theorem dX4_found_0 : decode cX4_found 0 = .ok (.iload_n 1, 1) := by decide +kernel
theorem dX4_found_1 : decode cX4_found 1 = .ok (.ifCond .lt 20, 3) := by decide +kernel
theorem dX4_found_4 : decode cX4_found 4 = .ok (.iload_n 1, 1) := by decide +kernel
theorem dX4_found_5 : decode cX4_found 5 = .ok (.aload_n 0, 1) := by decide +kernel
theorem dX4_found_6 : decode cX4_found 6 = .ok (.getfield 29, 3) := by decide +kernel
theorem dX4_found_9 : decode cX4_found 9 = .ok (.if_icmp .ge 12, 3) := by decide +kernel
theorem dX4_found_12 : decode cX4_found 12 = .ok (.aload_n 0, 1) := by decide +kernel
theorem dX4_found_13 : decode cX4_found 13 = .ok (.getfield 11, 3) := by decide +kernel
theorem dX4_found_16 : decode cX4_found 16 = .ok (.iload_n 1, 1) := by decide +kernel
theorem dX4_found_17 : decode cX4_found 17 = .ok (.aaload, 1) := by decide +kernel
theorem dX4_found_18 : decode cX4_found 18 = .ok (.goto 4, 3) := by decide +kernel
theorem dX4_found_21 : decode cX4_found 21 = .ok (.aconst_null, 1) := by decide +kernel
theorem dX4_found_22 : decode cX4_found 22 = .ok (.areturn, 1) := by decide +kernel
theorem dX4_added_0 : decode cX4_added 0 = .ok (.aload_n 0, 1) := by decide +kernel
theorem dX4_added_1 : decode cX4_added 1 = .ok (.getfield 29, 3) := by decide +kernel
theorem dX4_added_4 : decode cX4_added 4 = .ok (.bipush 40, 2) := by decide +kernel
theorem dX4_added_6 : decode cX4_added 6 = .ok (.if_icmp .lt 5, 3) := by decide +kernel
theorem dX4_added_9 : decode cX4_added 9 = .ok (.iconst (-1), 1) := by decide +kernel
theorem dX4_added_10 : decode cX4_added 10 = .ok (.ireturn, 1) := by decide +kernel
theorem dX4_added_11 : decode cX4_added 11 = .ok (.aload_n 0, 1) := by decide +kernel
theorem dX4_added_12 : decode cX4_added 12 = .ok (.getfield 11, 3) := by decide +kernel
theorem dX4_added_15 : decode cX4_added 15 = .ok (.aload_n 0, 1) := by decide +kernel
theorem dX4_added_16 : decode cX4_added 16 = .ok (.getfield 29, 3) := by decide +kernel
theorem dX4_added_19 : decode cX4_added 19 = .ok (.aload_n 1, 1) := by decide +kernel
theorem dX4_added_20 : decode cX4_added 20 = .ok (.aastore, 1) := by decide +kernel
theorem dX4_added_21 : decode cX4_added 21 = .ok (.aload_n 0, 1) := by decide +kernel
theorem dX4_added_22 : decode cX4_added 22 = .ok (.dup, 1) := by decide +kernel
theorem dX4_added_23 : decode cX4_added 23 = .ok (.getfield 29, 3) := by decide +kernel
theorem dX4_added_26 : decode cX4_added 26 = .ok (.iconst 1, 1) := by decide +kernel
theorem dX4_added_27 : decode cX4_added 27 = .ok (.iadd, 1) := by decide +kernel
theorem dX4_added_28 : decode cX4_added 28 = .ok (.putfield 29, 3) := by decide +kernel
theorem dX4_added_31 : decode cX4_added 31 = .ok (.aload_n 0, 1) := by decide +kernel
theorem dX4_added_32 : decode cX4_added 32 = .ok (.getfield 29, 3) := by decide +kernel
theorem dX4_added_35 : decode cX4_added 35 = .ok (.iconst 1, 1) := by decide +kernel
theorem dX4_added_36 : decode cX4_added 36 = .ok (.isub, 1) := by decide +kernel
theorem dX4_added_37 : decode cX4_added 37 = .ok (.ireturn, 1) := by decide +kernel
theorem dX4_within_0 : decode cX4_within 0 = .ok (.lload_n 0, 1) := by decide +kernel
theorem dX4_within_1 : decode cX4_within 1 = .ok (.lload_n 2, 1) := by decide +kernel
theorem dX4_within_2 : decode cX4_within 2 = .ok (.lcmp, 1) := by decide +kernel
theorem dX4_within_3 : decode cX4_within 3 = .ok (.ifCond .lt 14, 3) := by decide +kernel
theorem dX4_within_6 : decode cX4_within 6 = .ok (.lload_n 0, 1) := by decide +kernel
theorem dX4_within_7 : decode cX4_within 7 = .ok (.lload 4, 2) := by decide +kernel
theorem dX4_within_9 : decode cX4_within 9 = .ok (.lcmp, 1) := by decide +kernel
theorem dX4_within_10 : decode cX4_within 10 = .ok (.ifCond .gt 7, 3) := by decide +kernel
theorem dX4_within_13 : decode cX4_within 13 = .ok (.iconst 1, 1) := by decide +kernel
theorem dX4_within_14 : decode cX4_within 14 = .ok (.goto 4, 3) := by decide +kernel
theorem dX4_within_17 : decode cX4_within 17 = .ok (.iconst 0, 1) := by decide +kernel
theorem dX4_within_18 : decode cX4_within 18 = .ok (.ireturn, 1) := by decide +kernel
theorem dJ9_max_f86c9_0 : decode cJ9_max_f86c9 0 = .ok (.lload_n 0, 1) := by decide +kernel
theorem dJ9_max_f86c9_1 : decode cJ9_max_f86c9 1 = .ok (.lload_n 2, 1) := by decide +kernel
theorem dJ9_max_f86c9_2 : decode cJ9_max_f86c9 2 = .ok (.lcmp, 1) := by decide +kernel
theorem dJ9_max_f86c9_3 : decode cJ9_max_f86c9 3 = .ok (.ifCond .lt 7, 3) := by decide +kernel
theorem dJ9_max_f86c9_6 : decode cJ9_max_f86c9 6 = .ok (.lload_n 0, 1) := by decide +kernel
theorem dJ9_max_f86c9_7 : decode cJ9_max_f86c9 7 = .ok (.goto 4, 3) := by decide +kernel
theorem dJ9_max_f86c9_10 : decode cJ9_max_f86c9 10 = .ok (.lload_n 2, 1) := by decide +kernel
theorem dJ9_max_f86c9_11 : decode cJ9_max_f86c9 11 = .ok (.lreturn, 1) := by decide +kernel
theorem dJ9_min_f86c9_0 : decode cJ9_min_f86c9 0 = .ok (.lload_n 0, 1) := by decide +kernel
theorem dJ9_min_f86c9_1 : decode cJ9_min_f86c9 1 = .ok (.lload_n 2, 1) := by decide +kernel
theorem dJ9_min_f86c9_2 : decode cJ9_min_f86c9 2 = .ok (.lcmp, 1) := by decide +kernel
theorem dJ9_min_f86c9_3 : decode cJ9_min_f86c9 3 = .ok (.ifCond .gt 7, 3) := by decide +kernel
theorem dJ9_min_f86c9_6 : decode cJ9_min_f86c9 6 = .ok (.lload_n 0, 1) := by decide +kernel
theorem dJ9_min_f86c9_7 : decode cJ9_min_f86c9 7 = .ok (.goto 4, 3) := by decide +kernel
theorem dJ9_min_f86c9_10 : decode cJ9_min_f86c9 10 = .ok (.lload_n 2, 1) := by decide +kernel
theorem dJ9_min_f86c9_11 : decode cJ9_min_f86c9 11 = .ok (.lreturn, 1) := by decide +kernel
