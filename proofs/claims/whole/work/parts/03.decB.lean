theorem dX5_init_0 : decode cX5_init 0 = .ok (.aload_n 0, 1) := by decide +kernel
theorem dX5_init_1 : decode cX5_init 1 = .ok (.invokespecial 3, 3) := by decide +kernel
theorem dX5_init_4 : decode cX5_init 4 = .ok (.aload_n 0, 1) := by decide +kernel
theorem dX5_init_5 : decode cX5_init 5 = .ok (.ldc 9, 2) := by decide +kernel
theorem dX5_init_7 : decode cX5_init 7 = .ok (.newarray .long, 2) := by decide +kernel
theorem dX5_init_9 : decode cX5_init 9 = .ok (.putfield 10, 3) := by decide +kernel
theorem dX5_init_12 : decode cX5_init 12 = .ok (.aload_n 0, 1) := by decide +kernel
theorem dX5_init_13 : decode cX5_init 13 = .ok (.ldc 14, 2) := by decide +kernel
theorem dX5_init_15 : decode cX5_init 15 = .ok (.newarray .long, 2) := by decide +kernel
theorem dX5_init_17 : decode cX5_init 17 = .ok (.putfield 15, 3) := by decide +kernel
theorem dX5_init_20 : decode cX5_init 20 = .ok (.aload_n 0, 1) := by decide +kernel
theorem dX5_init_21 : decode cX5_init 21 = .ok (.sipush 620, 3) := by decide +kernel
theorem dX5_init_24 : decode cX5_init 24 = .ok (.newarray .int, 2) := by decide +kernel
theorem dX5_init_26 : decode cX5_init 26 = .ok (.putfield 18, 3) := by decide +kernel
theorem dX5_init_29 : decode cX5_init 29 = .ok (.aload_n 0, 1) := by decide +kernel
theorem dX5_init_30 : decode cX5_init 30 = .ok (.ldc 22, 2) := by decide +kernel
theorem dX5_init_32 : decode cX5_init 32 = .ok (.newarray .long, 2) := by decide +kernel
theorem dX5_init_34 : decode cX5_init 34 = .ok (.putfield 23, 3) := by decide +kernel
theorem dX5_init_37 : decode cX5_init 37 = .ok (.aload_n 0, 1) := by decide +kernel
theorem dX5_init_38 : decode cX5_init 38 = .ok (.sipush 180, 3) := by decide +kernel
theorem dX5_init_41 : decode cX5_init 41 = .ok (.newarray .long, 2) := by decide +kernel
theorem dX5_init_43 : decode cX5_init 43 = .ok (.putfield 26, 3) := by decide +kernel
theorem dX5_init_46 : decode cX5_init 46 = .ok (.return_, 1) := by decide +kernel
theorem dX5_get_0 : decode cX5_get 0 = .ok (.aload_n 0, 1) := by decide +kernel
theorem dX5_get_1 : decode cX5_get 1 = .ok (.getfield 10, 3) := by decide +kernel
theorem dX5_get_4 : decode cX5_get 4 = .ok (.sipush 1393, 3) := by decide +kernel
theorem dX5_get_7 : decode cX5_get 7 = .ok (.iload_n 1, 1) := by decide +kernel
theorem dX5_get_8 : decode cX5_get 8 = .ok (.imul, 1) := by decide +kernel
theorem dX5_get_9 : decode cX5_get 9 = .ok (.iload_n 2, 1) := by decide +kernel
theorem dX5_get_10 : decode cX5_get 10 = .ok (.iadd, 1) := by decide +kernel
theorem dX5_get_11 : decode cX5_get 11 = .ok (.laload, 1) := by decide +kernel
theorem dX5_get_12 : decode cX5_get 12 = .ok (.lreturn, 1) := by decide +kernel
theorem dX5_set_0 : decode cX5_set 0 = .ok (.aload_n 0, 1) := by decide +kernel
theorem dX5_set_1 : decode cX5_set 1 = .ok (.getfield 10, 3) := by decide +kernel
theorem dX5_set_4 : decode cX5_set 4 = .ok (.sipush 1393, 3) := by decide +kernel
theorem dX5_set_7 : decode cX5_set 7 = .ok (.iload_n 1, 1) := by decide +kernel
theorem dX5_set_8 : decode cX5_set 8 = .ok (.imul, 1) := by decide +kernel
theorem dX5_set_9 : decode cX5_set 9 = .ok (.iload_n 2, 1) := by decide +kernel
theorem dX5_set_10 : decode cX5_set 10 = .ok (.iadd, 1) := by decide +kernel
theorem dX5_set_11 : decode cX5_set 11 = .ok (.lload_n 3, 1) := by decide +kernel
theorem dX5_set_12 : decode cX5_set 12 = .ok (.lastore, 1) := by decide +kernel
theorem dX5_set_13 : decode cX5_set 13 = .ok (.return_, 1) := by decide +kernel
theorem dX5_more_0 : decode cX5_more 0 = .ok (.aload_n 0, 1) := by decide +kernel
theorem dX5_more_1 : decode cX5_more 1 = .ok (.getfield 10, 3) := by decide +kernel
theorem dX5_more_4 : decode cX5_more 4 = .ok (.sipush 1393, 3) := by decide +kernel
theorem dX5_more_7 : decode cX5_more 7 = .ok (.iload_n 1, 1) := by decide +kernel
theorem dX5_more_8 : decode cX5_more 8 = .ok (.imul, 1) := by decide +kernel
theorem dX5_more_9 : decode cX5_more 9 = .ok (.iload_n 2, 1) := by decide +kernel
theorem dX5_more_10 : decode cX5_more 10 = .ok (.iadd, 1) := by decide +kernel
theorem dX5_more_11 : decode cX5_more 11 = .ok (.dup2, 1) := by decide +kernel
theorem dX5_more_12 : decode cX5_more 12 = .ok (.laload, 1) := by decide +kernel
theorem dX5_more_13 : decode cX5_more 13 = .ok (.lload_n 3, 1) := by decide +kernel
theorem dX5_more_14 : decode cX5_more 14 = .ok (.ladd, 1) := by decide +kernel
theorem dX5_more_15 : decode cX5_more 15 = .ok (.lastore, 1) := by decide +kernel
theorem dX5_more_16 : decode cX5_more 16 = .ok (.return_, 1) := by decide +kernel
theorem dX5_at_0 : decode cX5_at 0 = .ok (.bipush 13, 2) := by decide +kernel
theorem dX5_at_2 : decode cX5_at 2 = .ok (.bipush 17, 2) := by decide +kernel
theorem dX5_at_4 : decode cX5_at 4 = .ok (.iload_n 0, 1) := by decide +kernel
theorem dX5_at_5 : decode cX5_at 5 = .ok (.imul, 1) := by decide +kernel
theorem dX5_at_6 : decode cX5_at 6 = .ok (.iadd, 1) := by decide +kernel
theorem dX5_at_7 : decode cX5_at 7 = .ok (.iload_n 1, 1) := by decide +kernel
theorem dX5_at_8 : decode cX5_at 8 = .ok (.iadd, 1) := by decide +kernel
theorem dX5_at_9 : decode cX5_at 9 = .ok (.ireturn, 1) := by decide +kernel
theorem dX5_isRing_0 : decode cX5_isRing 0 = .ok (.iload_n 1, 1) := by decide +kernel
theorem dX5_isRing_1 : decode cX5_isRing 1 = .ok (.ifCond .lt 15, 3) := by decide +kernel
theorem dX5_isRing_4 : decode cX5_isRing 4 = .ok (.iload_n 1, 1) := by decide +kernel
theorem dX5_isRing_5 : decode cX5_isRing 5 = .ok (.aload_n 0, 1) := by decide +kernel
theorem dX5_isRing_6 : decode cX5_isRing 6 = .ok (.getfield 29, 3) := by decide +kernel
theorem dX5_isRing_9 : decode cX5_isRing 9 = .ok (.if_icmp .ge 7, 3) := by decide +kernel
theorem dX5_isRing_12 : decode cX5_isRing 12 = .ok (.iconst 1, 1) := by decide +kernel
theorem dX5_isRing_13 : decode cX5_isRing 13 = .ok (.goto 4, 3) := by decide +kernel
theorem dX5_isRing_16 : decode cX5_isRing 16 = .ok (.iconst 0, 1) := by decide +kernel
theorem dX5_isRing_17 : decode cX5_isRing 17 = .ok (.ireturn, 1) := by decide +kernel
theorem dX5_isSeat_0 : decode cX5_isSeat 0 = .ok (.iload_n 0, 1) := by decide +kernel
theorem dX5_isSeat_1 : decode cX5_isSeat 1 = .ok (.ifCond .lt 13, 3) := by decide +kernel
theorem dX5_isSeat_4 : decode cX5_isSeat 4 = .ok (.iload_n 0, 1) := by decide +kernel
theorem dX5_isSeat_5 : decode cX5_isSeat 5 = .ok (.bipush 60, 2) := by decide +kernel
theorem dX5_isSeat_7 : decode cX5_isSeat 7 = .ok (.if_icmp .ge 7, 3) := by decide +kernel
theorem dX5_isSeat_10 : decode cX5_isSeat 10 = .ok (.iconst 1, 1) := by decide +kernel
theorem dX5_isSeat_11 : decode cX5_isSeat 11 = .ok (.goto 4, 3) := by decide +kernel
theorem dX5_isSeat_14 : decode cX5_isSeat 14 = .ok (.iconst 0, 1) := by decide +kernel
theorem dX5_isSeat_15 : decode cX5_isSeat 15 = .ok (.ireturn, 1) := by decide +kernel
theorem dX5_isMember_0 : decode cX5_isMember 0 = .ok (.iload_n 2, 1) := by decide +kernel
theorem dX5_isMember_1 : decode cX5_isMember 1 = .ok (.invokestatic 33, 3) := by decide +kernel
theorem dX5_isMember_4 : decode cX5_isMember 4 = .ok (.ifCond .eq 24, 3) := by decide +kernel
theorem dX5_isMember_7 : decode cX5_isMember 7 = .ok (.aload_n 0, 1) := by decide +kernel
theorem dX5_isMember_8 : decode cX5_isMember 8 = .ok (.iload_n 1, 1) := by decide +kernel
theorem dX5_isMember_9 : decode cX5_isMember 9 = .ok (.iload_n 2, 1) := by decide +kernel
theorem dX5_isMember_10 : decode cX5_isMember 10 = .ok (.iconst 0, 1) := by decide +kernel
theorem dX5_isMember_11 : decode cX5_isMember 11 = .ok (.invokestatic 37, 3) := by decide +kernel
theorem dX5_isMember_14 : decode cX5_isMember 14 = .ok (.invokevirtual 41, 3) := by decide +kernel
theorem dX5_isMember_17 : decode cX5_isMember 17 = .ok (.ldc2_w 45, 3) := by decide +kernel
theorem dX5_isMember_20 : decode cX5_isMember 20 = .ok (.lcmp, 1) := by decide +kernel
theorem dX5_isMember_21 : decode cX5_isMember 21 = .ok (.ifCond .lt 7, 3) := by decide +kernel
theorem dX5_isMember_24 : decode cX5_isMember 24 = .ok (.iconst 1, 1) := by decide +kernel
theorem dX5_isMember_25 : decode cX5_isMember 25 = .ok (.goto 4, 3) := by decide +kernel
theorem dX5_isMember_28 : decode cX5_isMember 28 = .ok (.iconst 0, 1) := by decide +kernel
theorem dX5_isMember_29 : decode cX5_isMember 29 = .ok (.ireturn, 1) := by decide +kernel
theorem dX5_isPlace_0 : decode cX5_isPlace 0 = .ok (.aload_n 0, 1) := by decide +kernel
theorem dX5_isPlace_1 : decode cX5_isPlace 1 = .ok (.iload_n 1, 1) := by decide +kernel
theorem dX5_isPlace_2 : decode cX5_isPlace 2 = .ok (.iconst 4, 1) := by decide +kernel
theorem dX5_isPlace_3 : decode cX5_isPlace 3 = .ok (.invokevirtual 41, 3) := by decide +kernel
theorem dX5_isPlace_6 : decode cX5_isPlace 6 = .ok (.lconst 0, 1) := by decide +kernel
theorem dX5_isPlace_7 : decode cX5_isPlace 7 = .ok (.lcmp, 1) := by decide +kernel
theorem dX5_isPlace_8 : decode cX5_isPlace 8 = .ok (.ifCond .le 16, 3) := by decide +kernel
theorem dX5_isPlace_11 : decode cX5_isPlace 11 = .ok (.aload_n 0, 1) := by decide +kernel
theorem dX5_isPlace_12 : decode cX5_isPlace 12 = .ok (.iload_n 1, 1) := by decide +kernel
theorem dX5_isPlace_13 : decode cX5_isPlace 13 = .ok (.iload_n 2, 1) := by decide +kernel
theorem dX5_isPlace_14 : decode cX5_isPlace 14 = .ok (.invokevirtual 47, 3) := by decide +kernel
theorem dX5_isPlace_17 : decode cX5_isPlace 17 = .ok (.ifCond .eq 7, 3) := by decide +kernel
theorem dX5_isPlace_20 : decode cX5_isPlace 20 = .ok (.iconst 1, 1) := by decide +kernel
theorem dX5_isPlace_21 : decode cX5_isPlace 21 = .ok (.goto 4, 3) := by decide +kernel
theorem dX5_isPlace_24 : decode cX5_isPlace 24 = .ok (.iconst 0, 1) := by decide +kernel
theorem dX5_isPlace_25 : decode cX5_isPlace 25 = .ok (.ireturn, 1) := by decide +kernel
theorem dX5_isStopped_0 : decode cX5_isStopped 0 = .ok (.aload_n 0, 1) := by decide +kernel
theorem dX5_isStopped_1 : decode cX5_isStopped 1 = .ok (.iload_n 1, 1) := by decide +kernel
theorem dX5_isStopped_2 : decode cX5_isStopped 2 = .ok (.iload_n 2, 1) := by decide +kernel
theorem dX5_isStopped_3 : decode cX5_isStopped 3 = .ok (.iconst 4, 1) := by decide +kernel
theorem dX5_isStopped_4 : decode cX5_isStopped 4 = .ok (.invokestatic 37, 3) := by decide +kernel
theorem dX5_isStopped_7 : decode cX5_isStopped 7 = .ok (.invokevirtual 41, 3) := by decide +kernel
theorem dX5_isStopped_10 : decode cX5_isStopped 10 = .ok (.lconst 1, 1) := by decide +kernel
theorem dX5_isStopped_11 : decode cX5_isStopped 11 = .ok (.lcmp, 1) := by decide +kernel
theorem dX5_isStopped_12 : decode cX5_isStopped 12 = .ok (.ifCond .ne 7, 3) := by decide +kernel
theorem dX5_isStopped_15 : decode cX5_isStopped 15 = .ok (.iconst 1, 1) := by decide +kernel
theorem dX5_isStopped_16 : decode cX5_isStopped 16 = .ok (.goto 4, 3) := by decide +kernel
theorem dX5_isStopped_19 : decode cX5_isStopped 19 = .ok (.iconst 0, 1) := by decide +kernel
theorem dX5_isStopped_20 : decode cX5_isStopped 20 = .ok (.ireturn, 1) := by decide +kernel
theorem dX5_isNeither_0 : decode cX5_isNeither 0 = .ok (.aload_n 0, 1) := by decide +kernel
theorem dX5_isNeither_1 : decode cX5_isNeither 1 = .ok (.iload_n 1, 1) := by decide +kernel
theorem dX5_isNeither_2 : decode cX5_isNeither 2 = .ok (.iload_n 2, 1) := by decide +kernel
theorem dX5_isNeither_3 : decode cX5_isNeither 3 = .ok (.invokevirtual 51, 3) := by decide +kernel
theorem dX5_isNeither_6 : decode cX5_isNeither 6 = .ok (.ifCond .eq 31, 3) := by decide +kernel
theorem dX5_isNeither_9 : decode cX5_isNeither 9 = .ok (.aload_n 0, 1) := by decide +kernel
theorem dX5_isNeither_10 : decode cX5_isNeither 10 = .ok (.iload_n 1, 1) := by decide +kernel
theorem dX5_isNeither_11 : decode cX5_isNeither 11 = .ok (.iload_n 2, 1) := by decide +kernel
theorem dX5_isNeither_12 : decode cX5_isNeither 12 = .ok (.invokevirtual 54, 3) := by decide +kernel
theorem dX5_isNeither_15 : decode cX5_isNeither 15 = .ok (.ifCond .ne 22, 3) := by decide +kernel
theorem dX5_isNeither_18 : decode cX5_isNeither 18 = .ok (.aload_n 0, 1) := by decide +kernel
theorem dX5_isNeither_19 : decode cX5_isNeither 19 = .ok (.iload_n 1, 1) := by decide +kernel
theorem dX5_isNeither_20 : decode cX5_isNeither 20 = .ok (.iload_n 2, 1) := by decide +kernel
theorem dX5_isNeither_21 : decode cX5_isNeither 21 = .ok (.iconst 3, 1) := by decide +kernel
theorem dX5_isNeither_22 : decode cX5_isNeither 22 = .ok (.invokestatic 37, 3) := by decide +kernel
theorem dX5_isNeither_25 : decode cX5_isNeither 25 = .ok (.invokevirtual 41, 3) := by decide +kernel
theorem dX5_isNeither_28 : decode cX5_isNeither 28 = .ok (.lconst 0, 1) := by decide +kernel
theorem dX5_isNeither_29 : decode cX5_isNeither 29 = .ok (.lcmp, 1) := by decide +kernel
theorem dX5_isNeither_30 : decode cX5_isNeither 30 = .ok (.ifCond .ne 7, 3) := by decide +kernel
theorem dX5_isNeither_33 : decode cX5_isNeither 33 = .ok (.iconst 1, 1) := by decide +kernel
theorem dX5_isNeither_34 : decode cX5_isNeither 34 = .ok (.goto 4, 3) := by decide +kernel
theorem dX5_isNeither_37 : decode cX5_isNeither 37 = .ok (.iconst 0, 1) := by decide +kernel
theorem dX5_isNeither_38 : decode cX5_isNeither 38 = .ok (.ireturn, 1) := by decide +kernel
theorem dX5_isAble_0 : decode cX5_isAble 0 = .ok (.aload_n 0, 1) := by decide +kernel
theorem dX5_isAble_1 : decode cX5_isAble 1 = .ok (.iload_n 1, 1) := by decide +kernel
theorem dX5_isAble_2 : decode cX5_isAble 2 = .ok (.iload_n 2, 1) := by decide +kernel
theorem dX5_isAble_3 : decode cX5_isAble 3 = .ok (.invokevirtual 57, 3) := by decide +kernel
theorem dX5_isAble_6 : decode cX5_isAble 6 = .ok (.ifCond .eq 22, 3) := by decide +kernel
theorem dX5_isAble_9 : decode cX5_isAble 9 = .ok (.aload_n 0, 1) := by decide +kernel
theorem dX5_isAble_10 : decode cX5_isAble 10 = .ok (.iload_n 1, 1) := by decide +kernel
theorem dX5_isAble_11 : decode cX5_isAble 11 = .ok (.iload_n 2, 1) := by decide +kernel
theorem dX5_isAble_12 : decode cX5_isAble 12 = .ok (.iconst 5, 1) := by decide +kernel
theorem dX5_isAble_13 : decode cX5_isAble 13 = .ok (.invokestatic 37, 3) := by decide +kernel
theorem dX5_isAble_16 : decode cX5_isAble 16 = .ok (.invokevirtual 41, 3) := by decide +kernel
theorem dX5_isAble_19 : decode cX5_isAble 19 = .ok (.lconst 0, 1) := by decide +kernel
theorem dX5_isAble_20 : decode cX5_isAble 20 = .ok (.lcmp, 1) := by decide +kernel
theorem dX5_isAble_21 : decode cX5_isAble 21 = .ok (.ifCond .ne 7, 3) := by decide +kernel
theorem dX5_isAble_24 : decode cX5_isAble 24 = .ok (.iconst 1, 1) := by decide +kernel
theorem dX5_isAble_25 : decode cX5_isAble 25 = .ok (.goto 4, 3) := by decide +kernel
theorem dX5_isAble_28 : decode cX5_isAble 28 = .ok (.iconst 0, 1) := by decide +kernel
theorem dX5_isAble_29 : decode cX5_isAble 29 = .ok (.ireturn, 1) := by decide +kernel
theorem dX5_purse_0 : decode cX5_purse 0 = .ok (.aload_n 0, 1) := by decide +kernel
theorem dX5_purse_1 : decode cX5_purse 1 = .ok (.iload_n 1, 1) := by decide +kernel
theorem dX5_purse_2 : decode cX5_purse 2 = .ok (.bipush 6, 2) := by decide +kernel
theorem dX5_purse_4 : decode cX5_purse 4 = .ok (.invokevirtual 41, 3) := by decide +kernel
theorem dX5_purse_7 : decode cX5_purse 7 = .ok (.aload_n 0, 1) := by decide +kernel
theorem dX5_purse_8 : decode cX5_purse 8 = .ok (.iload_n 1, 1) := by decide +kernel
theorem dX5_purse_9 : decode cX5_purse 9 = .ok (.iconst 1, 1) := by decide +kernel
theorem dX5_purse_10 : decode cX5_purse 10 = .ok (.invokevirtual 41, 3) := by decide +kernel
theorem dX5_purse_13 : decode cX5_purse 13 = .ok (.lmul, 1) := by decide +kernel
theorem dX5_purse_14 : decode cX5_purse 14 = .ok (.lreturn, 1) := by decide +kernel
theorem dX5_ring_0 : decode cX5_ring 0 = .ok (.iload_n 1, 1) := by decide +kernel
theorem dX5_ring_1 : decode cX5_ring 1 = .ok (.ifCond .lt 50, 3) := by decide +kernel
theorem dX5_ring_4 : decode cX5_ring 4 = .ok (.iload_n 1, 1) := by decide +kernel
theorem dX5_ring_5 : decode cX5_ring 5 = .ok (.iconst 3, 1) := by decide +kernel
theorem dX5_ring_6 : decode cX5_ring 6 = .ok (.if_icmp .gt 45, 3) := by decide +kernel
theorem dX5_ring_9 : decode cX5_ring 9 = .ok (.iload_n 2, 1) := by decide +kernel
theorem dX5_ring_10 : decode cX5_ring 10 = .ok (.iconst 1, 1) := by decide +kernel
theorem dX5_ring_11 : decode cX5_ring 11 = .ok (.if_icmp .lt 40, 3) := by decide +kernel
theorem dX5_ring_14 : decode cX5_ring 14 = .ok (.iload_n 2, 1) := by decide +kernel
theorem dX5_ring_15 : decode cX5_ring 15 = .ok (.ldc 60, 2) := by decide +kernel
theorem dX5_ring_17 : decode cX5_ring 17 = .ok (.if_icmp .gt 34, 3) := by decide +kernel
theorem dX5_ring_20 : decode cX5_ring 20 = .ok (.iload_n 3, 1) := by decide +kernel
theorem dX5_ring_21 : decode cX5_ring 21 = .ok (.ifCond .lt 30, 3) := by decide +kernel
theorem dX5_ring_24 : decode cX5_ring 24 = .ok (.iload_n 3, 1) := by decide +kernel
theorem dX5_ring_25 : decode cX5_ring 25 = .ok (.ldc 60, 2) := by decide +kernel
theorem dX5_ring_27 : decode cX5_ring 27 = .ok (.if_icmp .gt 24, 3) := by decide +kernel
theorem dX5_ring_30 : decode cX5_ring 30 = .ok (.iload 4, 2) := by decide +kernel
theorem dX5_ring_32 : decode cX5_ring 32 = .ok (.ifCond .lt 19, 3) := by decide +kernel
theorem dX5_ring_35 : decode cX5_ring 35 = .ok (.iload 4, 2) := by decide +kernel
theorem dX5_ring_37 : decode cX5_ring 37 = .ok (.ldc 61, 2) := by decide +kernel
theorem dX5_ring_39 : decode cX5_ring 39 = .ok (.if_icmp .gt 12, 3) := by decide +kernel
theorem dX5_ring_42 : decode cX5_ring 42 = .ok (.aload_n 0, 1) := by decide +kernel
theorem dX5_ring_43 : decode cX5_ring 43 = .ok (.getfield 29, 3) := by decide +kernel
theorem dX5_ring_46 : decode cX5_ring 46 = .ok (.bipush 40, 2) := by decide +kernel
theorem dX5_ring_48 : decode cX5_ring 48 = .ok (.if_icmp .ne 5, 3) := by decide +kernel
theorem dX5_ring_51 : decode cX5_ring 51 = .ok (.iconst (-1), 1) := by decide +kernel
theorem dX5_ring_52 : decode cX5_ring 52 = .ok (.ireturn, 1) := by decide +kernel
theorem dX5_ring_53 : decode cX5_ring 53 = .ok (.aload_n 0, 1) := by decide +kernel
theorem dX5_ring_54 : decode cX5_ring 54 = .ok (.getfield 29, 3) := by decide +kernel
theorem dX5_ring_57 : decode cX5_ring 57 = .ok (.istore 5, 2) := by decide +kernel
theorem dX5_ring_59 : decode cX5_ring 59 = .ok (.aload_n 0, 1) := by decide +kernel
theorem dX5_ring_60 : decode cX5_ring 60 = .ok (.dup, 1) := by decide +kernel
theorem dX5_ring_61 : decode cX5_ring 61 = .ok (.getfield 29, 3) := by decide +kernel
theorem dX5_ring_64 : decode cX5_ring 64 = .ok (.iconst 1, 1) := by decide +kernel
theorem dX5_ring_65 : decode cX5_ring 65 = .ok (.iadd, 1) := by decide +kernel
theorem dX5_ring_66 : decode cX5_ring 66 = .ok (.putfield 29, 3) := by decide +kernel
theorem dX5_ring_69 : decode cX5_ring 69 = .ok (.iconst 0, 1) := by decide +kernel
theorem dX5_ring_70 : decode cX5_ring 70 = .ok (.istore 6, 2) := by decide +kernel
theorem dX5_ring_72 : decode cX5_ring 72 = .ok (.iload 6, 2) := by decide +kernel
theorem dX5_ring_74 : decode cX5_ring 74 = .ok (.sipush 1393, 3) := by decide +kernel
theorem dX5_ring_77 : decode cX5_ring 77 = .ok (.if_icmp .ge 18, 3) := by decide +kernel
theorem dX5_ring_80 : decode cX5_ring 80 = .ok (.aload_n 0, 1) := by decide +kernel
theorem dX5_ring_81 : decode cX5_ring 81 = .ok (.iload 5, 2) := by decide +kernel
theorem dX5_ring_83 : decode cX5_ring 83 = .ok (.iload 6, 2) := by decide +kernel
theorem dX5_ring_85 : decode cX5_ring 85 = .ok (.lconst 0, 1) := by decide +kernel
theorem dX5_ring_86 : decode cX5_ring 86 = .ok (.invokevirtual 62, 3) := by decide +kernel
theorem dX5_ring_89 : decode cX5_ring 89 = .ok (.iinc 6 1, 3) := by decide +kernel
theorem dX5_ring_92 : decode cX5_ring 92 = .ok (.goto (-20), 3) := by decide +kernel
theorem dX5_ring_95 : decode cX5_ring 95 = .ok (.aload_n 0, 1) := by decide +kernel
theorem dX5_ring_96 : decode cX5_ring 96 = .ok (.iload 5, 2) := by decide +kernel
theorem dX5_ring_98 : decode cX5_ring 98 = .ok (.iconst 0, 1) := by decide +kernel
theorem dX5_ring_99 : decode cX5_ring 99 = .ok (.iload_n 1, 1) := by decide +kernel
theorem dX5_ring_100 : decode cX5_ring 100 = .ok (.i2l, 1) := by decide +kernel
theorem dX5_ring_101 : decode cX5_ring 101 = .ok (.invokevirtual 62, 3) := by decide +kernel
theorem dX5_ring_104 : decode cX5_ring 104 = .ok (.aload_n 0, 1) := by decide +kernel
theorem dX5_ring_105 : decode cX5_ring 105 = .ok (.iload 5, 2) := by decide +kernel
theorem dX5_ring_107 : decode cX5_ring 107 = .ok (.iconst 1, 1) := by decide +kernel
theorem dX5_ring_108 : decode cX5_ring 108 = .ok (.iload_n 2, 1) := by decide +kernel
theorem dX5_ring_109 : decode cX5_ring 109 = .ok (.i2l, 1) := by decide +kernel
theorem dX5_ring_110 : decode cX5_ring 110 = .ok (.invokevirtual 62, 3) := by decide +kernel
theorem dX5_ring_113 : decode cX5_ring 113 = .ok (.aload_n 0, 1) := by decide +kernel
theorem dX5_ring_114 : decode cX5_ring 114 = .ok (.iload 5, 2) := by decide +kernel
theorem dX5_ring_116 : decode cX5_ring 116 = .ok (.iconst 2, 1) := by decide +kernel
theorem dX5_ring_117 : decode cX5_ring 117 = .ok (.iload_n 3, 1) := by decide +kernel
theorem dX5_ring_118 : decode cX5_ring 118 = .ok (.i2l, 1) := by decide +kernel
theorem dX5_ring_119 : decode cX5_ring 119 = .ok (.invokevirtual 62, 3) := by decide +kernel
theorem dX5_ring_122 : decode cX5_ring 122 = .ok (.aload_n 0, 1) := by decide +kernel
theorem dX5_ring_123 : decode cX5_ring 123 = .ok (.iload 5, 2) := by decide +kernel
theorem dX5_ring_125 : decode cX5_ring 125 = .ok (.iconst 3, 1) := by decide +kernel
theorem dX5_ring_126 : decode cX5_ring 126 = .ok (.iload 4, 2) := by decide +kernel
theorem dX5_ring_128 : decode cX5_ring 128 = .ok (.i2l, 1) := by decide +kernel
theorem dX5_ring_129 : decode cX5_ring 129 = .ok (.invokevirtual 62, 3) := by decide +kernel
theorem dX5_ring_132 : decode cX5_ring 132 = .ok (.aload_n 0, 1) := by decide +kernel
theorem dX5_ring_133 : decode cX5_ring 133 = .ok (.iload 5, 2) := by decide +kernel
theorem dX5_ring_135 : decode cX5_ring 135 = .ok (.bipush 7, 2) := by decide +kernel
theorem dX5_ring_137 : decode cX5_ring 137 = .ok (.ldc2_w 66, 3) := by decide +kernel
theorem dX5_ring_140 : decode cX5_ring 140 = .ok (.invokevirtual 62, 3) := by decide +kernel
theorem dX5_ring_143 : decode cX5_ring 143 = .ok (.aload_n 0, 1) := by decide +kernel
theorem dX5_ring_144 : decode cX5_ring 144 = .ok (.iload 5, 2) := by decide +kernel
theorem dX5_ring_146 : decode cX5_ring 146 = .ok (.bipush 9, 2) := by decide +kernel
theorem dX5_ring_148 : decode cX5_ring 148 = .ok (.ldc2_w 66, 3) := by decide +kernel
theorem dX5_ring_151 : decode cX5_ring 151 = .ok (.invokevirtual 62, 3) := by decide +kernel
theorem dX5_ring_154 : decode cX5_ring 154 = .ok (.iconst 0, 1) := by decide +kernel
theorem dX5_ring_155 : decode cX5_ring 155 = .ok (.istore 6, 2) := by decide +kernel
theorem dX5_ring_157 : decode cX5_ring 157 = .ok (.iload 6, 2) := by decide +kernel
theorem dX5_ring_159 : decode cX5_ring 159 = .ok (.bipush 60, 2) := by decide +kernel
theorem dX5_ring_161 : decode cX5_ring 161 = .ok (.if_icmp .ge 24, 3) := by decide +kernel
theorem dX5_ring_164 : decode cX5_ring 164 = .ok (.aload_n 0, 1) := by decide +kernel
theorem dX5_ring_165 : decode cX5_ring 165 = .ok (.iload 5, 2) := by decide +kernel
theorem dX5_ring_167 : decode cX5_ring 167 = .ok (.iload 6, 2) := by decide +kernel
theorem dX5_ring_169 : decode cX5_ring 169 = .ok (.iconst 2, 1) := by decide +kernel
theorem dX5_ring_170 : decode cX5_ring 170 = .ok (.invokestatic 37, 3) := by decide +kernel
theorem dX5_ring_173 : decode cX5_ring 173 = .ok (.ldc2_w 66, 3) := by decide +kernel
theorem dX5_ring_176 : decode cX5_ring 176 = .ok (.invokevirtual 62, 3) := by decide +kernel
theorem dX5_ring_179 : decode cX5_ring 179 = .ok (.iinc 6 1, 3) := by decide +kernel
theorem dX5_ring_182 : decode cX5_ring 182 = .ok (.goto (-25), 3) := by decide +kernel
theorem dX5_ring_185 : decode cX5_ring 185 = .ok (.iload 5, 2) := by decide +kernel
theorem dX5_ring_187 : decode cX5_ring 187 = .ok (.ireturn, 1) := by decide +kernel
theorem dX5_seat_0 : decode cX5_seat 0 = .ok (.aload_n 0, 1) := by decide +kernel
theorem dX5_seat_1 : decode cX5_seat 1 = .ok (.iload_n 1, 1) := by decide +kernel
theorem dX5_seat_2 : decode cX5_seat 2 = .ok (.invokevirtual 68, 3) := by decide +kernel
theorem dX5_seat_5 : decode cX5_seat 5 = .ok (.ifCond .ne 5, 3) := by decide +kernel
theorem dX5_seat_8 : decode cX5_seat 8 = .ok (.iconst 1, 1) := by decide +kernel
theorem dX5_seat_9 : decode cX5_seat 9 = .ok (.ireturn, 1) := by decide +kernel
theorem dX5_seat_10 : decode cX5_seat 10 = .ok (.aload_n 0, 1) := by decide +kernel
theorem dX5_seat_11 : decode cX5_seat 11 = .ok (.iload_n 1, 1) := by decide +kernel
theorem dX5_seat_12 : decode cX5_seat 12 = .ok (.iconst 4, 1) := by decide +kernel
theorem dX5_seat_13 : decode cX5_seat 13 = .ok (.invokevirtual 41, 3) := by decide +kernel
theorem dX5_seat_16 : decode cX5_seat 16 = .ok (.lconst 0, 1) := by decide +kernel
theorem dX5_seat_17 : decode cX5_seat 17 = .ok (.lcmp, 1) := by decide +kernel
theorem dX5_seat_18 : decode cX5_seat 18 = .ok (.ifCond .eq 5, 3) := by decide +kernel
theorem dX5_seat_21 : decode cX5_seat 21 = .ok (.iconst 2, 1) := by decide +kernel
theorem dX5_seat_22 : decode cX5_seat 22 = .ok (.ireturn, 1) := by decide +kernel
theorem dX5_seat_23 : decode cX5_seat 23 = .ok (.iload_n 2, 1) := by decide +kernel
theorem dX5_seat_24 : decode cX5_seat 24 = .ok (.invokestatic 33, 3) := by decide +kernel
theorem dX5_seat_27 : decode cX5_seat 27 = .ok (.ifCond .ne 5, 3) := by decide +kernel
theorem dX5_seat_30 : decode cX5_seat 30 = .ok (.iconst 3, 1) := by decide +kernel
theorem dX5_seat_31 : decode cX5_seat 31 = .ok (.ireturn, 1) := by decide +kernel
theorem dX5_seat_32 : decode cX5_seat 32 = .ok (.iload_n 3, 1) := by decide +kernel
theorem dX5_seat_33 : decode cX5_seat 33 = .ok (.ifCond .lt 8, 3) := by decide +kernel
theorem dX5_seat_36 : decode cX5_seat 36 = .ok (.iload_n 3, 1) := by decide +kernel
theorem dX5_seat_37 : decode cX5_seat 37 = .ok (.iconst 4, 1) := by decide +kernel
theorem dX5_seat_38 : decode cX5_seat 38 = .ok (.if_icmp .le 5, 3) := by decide +kernel
theorem dX5_seat_41 : decode cX5_seat 41 = .ok (.iconst 4, 1) := by decide +kernel
theorem dX5_seat_42 : decode cX5_seat 42 = .ok (.ireturn, 1) := by decide +kernel
theorem dX5_seat_43 : decode cX5_seat 43 = .ok (.aload_n 0, 1) := by decide +kernel
theorem dX5_seat_44 : decode cX5_seat 44 = .ok (.iload_n 1, 1) := by decide +kernel
theorem dX5_seat_45 : decode cX5_seat 45 = .ok (.iload_n 2, 1) := by decide +kernel
theorem dX5_seat_46 : decode cX5_seat 46 = .ok (.iconst 0, 1) := by decide +kernel
theorem dX5_seat_47 : decode cX5_seat 47 = .ok (.invokestatic 37, 3) := by decide +kernel
theorem dX5_seat_50 : decode cX5_seat 50 = .ok (.iload_n 3, 1) := by decide +kernel
theorem dX5_seat_51 : decode cX5_seat 51 = .ok (.i2l, 1) := by decide +kernel
theorem dX5_seat_52 : decode cX5_seat 52 = .ok (.invokevirtual 62, 3) := by decide +kernel
theorem dX5_seat_55 : decode cX5_seat 55 = .ok (.aload_n 0, 1) := by decide +kernel
theorem dX5_seat_56 : decode cX5_seat 56 = .ok (.iload_n 1, 1) := by decide +kernel
theorem dX5_seat_57 : decode cX5_seat 57 = .ok (.iload_n 2, 1) := by decide +kernel
theorem dX5_seat_58 : decode cX5_seat 58 = .ok (.iconst 1, 1) := by decide +kernel
theorem dX5_seat_59 : decode cX5_seat 59 = .ok (.invokestatic 37, 3) := by decide +kernel
theorem dX5_seat_62 : decode cX5_seat 62 = .ok (.iload_n 3, 1) := by decide +kernel
theorem dX5_seat_63 : decode cX5_seat 63 = .ok (.iconst 1, 1) := by decide +kernel
theorem dX5_seat_64 : decode cX5_seat 64 = .ok (.if_icmp .ne 9, 3) := by decide +kernel
theorem dX5_seat_67 : decode cX5_seat 67 = .ok (.iload 4, 2) := by decide +kernel
theorem dX5_seat_69 : decode cX5_seat 69 = .ok (.i2l, 1) := by decide +kernel
theorem dX5_seat_70 : decode cX5_seat 70 = .ok (.goto 4, 3) := by decide +kernel
theorem dX5_seat_73 : decode cX5_seat 73 = .ok (.lconst 0, 1) := by decide +kernel
theorem dX5_seat_74 : decode cX5_seat 74 = .ok (.invokevirtual 62, 3) := by decide +kernel
theorem dX5_seat_77 : decode cX5_seat 77 = .ok (.iconst 0, 1) := by decide +kernel
theorem dX5_seat_78 : decode cX5_seat 78 = .ok (.ireturn, 1) := by decide +kernel
theorem dX5_letter_0 : decode cX5_letter 0 = .ok (.aload_n 0, 1) := by decide +kernel
theorem dX5_letter_1 : decode cX5_letter 1 = .ok (.iload_n 1, 1) := by decide +kernel
theorem dX5_letter_2 : decode cX5_letter 2 = .ok (.invokevirtual 68, 3) := by decide +kernel
theorem dX5_letter_5 : decode cX5_letter 5 = .ok (.ifCond .eq 24, 3) := by decide +kernel
theorem dX5_letter_8 : decode cX5_letter 8 = .ok (.iload_n 2, 1) := by decide +kernel
theorem dX5_letter_9 : decode cX5_letter 9 = .ok (.invokestatic 33, 3) := by decide +kernel
theorem dX5_letter_12 : decode cX5_letter 12 = .ok (.ifCond .eq 17, 3) := by decide +kernel
theorem dX5_letter_15 : decode cX5_letter 15 = .ok (.aload_n 0, 1) := by decide +kernel
theorem dX5_letter_16 : decode cX5_letter 16 = .ok (.iload_n 1, 1) := by decide +kernel
theorem dX5_letter_17 : decode cX5_letter 17 = .ok (.iload_n 2, 1) := by decide +kernel
theorem dX5_letter_18 : decode cX5_letter 18 = .ok (.iconst 1, 1) := by decide +kernel
theorem dX5_letter_19 : decode cX5_letter 19 = .ok (.invokestatic 37, 3) := by decide +kernel
theorem dX5_letter_22 : decode cX5_letter 22 = .ok (.invokevirtual 41, 3) := by decide +kernel
theorem dX5_letter_25 : decode cX5_letter 25 = .ok (.l2i, 1) := by decide +kernel
theorem dX5_letter_26 : decode cX5_letter 26 = .ok (.goto 4, 3) := by decide +kernel
theorem dX5_letter_29 : decode cX5_letter 29 = .ok (.iconst 0, 1) := by decide +kernel
theorem dX5_letter_30 : decode cX5_letter 30 = .ok (.ireturn, 1) := by decide +kernel
theorem dX5_answers_0 : decode cX5_answers 0 = .ok (.aload_n 0, 1) := by decide +kernel
theorem dX5_answers_1 : decode cX5_answers 1 = .ok (.iload_n 1, 1) := by decide +kernel
theorem dX5_answers_2 : decode cX5_answers 2 = .ok (.invokevirtual 68, 3) := by decide +kernel
theorem dX5_answers_5 : decode cX5_answers 5 = .ok (.ifCond .ne 5, 3) := by decide +kernel
theorem dX5_answers_8 : decode cX5_answers 8 = .ok (.iconst 1, 1) := by decide +kernel
theorem dX5_answers_9 : decode cX5_answers 9 = .ok (.ireturn, 1) := by decide +kernel
theorem dX5_answers_10 : decode cX5_answers 10 = .ok (.aload_n 0, 1) := by decide +kernel
theorem dX5_answers_11 : decode cX5_answers 11 = .ok (.iload_n 1, 1) := by decide +kernel
theorem dX5_answers_12 : decode cX5_answers 12 = .ok (.iconst 4, 1) := by decide +kernel
theorem dX5_answers_13 : decode cX5_answers 13 = .ok (.invokevirtual 41, 3) := by decide +kernel
theorem dX5_answers_16 : decode cX5_answers 16 = .ok (.lconst 0, 1) := by decide +kernel
theorem dX5_answers_17 : decode cX5_answers 17 = .ok (.lcmp, 1) := by decide +kernel
theorem dX5_answers_18 : decode cX5_answers 18 = .ok (.ifCond .eq 5, 3) := by decide +kernel
theorem dX5_answers_21 : decode cX5_answers 21 = .ok (.iconst 2, 1) := by decide +kernel
theorem dX5_answers_22 : decode cX5_answers 22 = .ok (.ireturn, 1) := by decide +kernel
theorem dX5_answers_23 : decode cX5_answers 23 = .ok (.iload_n 2, 1) := by decide +kernel
theorem dX5_answers_24 : decode cX5_answers 24 = .ok (.invokestatic 33, 3) := by decide +kernel
theorem dX5_answers_27 : decode cX5_answers 27 = .ok (.ifCond .eq 18, 3) := by decide +kernel
theorem dX5_answers_30 : decode cX5_answers 30 = .ok (.aload_n 0, 1) := by decide +kernel
theorem dX5_answers_31 : decode cX5_answers 31 = .ok (.iload_n 1, 1) := by decide +kernel
theorem dX5_answers_32 : decode cX5_answers 32 = .ok (.iload_n 2, 1) := by decide +kernel
theorem dX5_answers_33 : decode cX5_answers 33 = .ok (.iconst 0, 1) := by decide +kernel
theorem dX5_answers_34 : decode cX5_answers 34 = .ok (.invokestatic 37, 3) := by decide +kernel
theorem dX5_answers_37 : decode cX5_answers 37 = .ok (.invokevirtual 41, 3) := by decide +kernel
theorem dX5_answers_40 : decode cX5_answers 40 = .ok (.lconst 0, 1) := by decide +kernel
theorem dX5_answers_41 : decode cX5_answers 41 = .ok (.lcmp, 1) := by decide +kernel
theorem dX5_answers_42 : decode cX5_answers 42 = .ok (.ifCond .ne 5, 3) := by decide +kernel
theorem dX5_answers_45 : decode cX5_answers 45 = .ok (.iconst 3, 1) := by decide +kernel
theorem dX5_answers_46 : decode cX5_answers 46 = .ok (.ireturn, 1) := by decide +kernel
theorem dX5_answers_47 : decode cX5_answers 47 = .ok (.aload_n 0, 1) := by decide +kernel
theorem dX5_answers_48 : decode cX5_answers 48 = .ok (.iload_n 1, 1) := by decide +kernel
theorem dX5_answers_49 : decode cX5_answers 49 = .ok (.iload_n 2, 1) := by decide +kernel
theorem dX5_answers_50 : decode cX5_answers 50 = .ok (.iconst 0, 1) := by decide +kernel
theorem dX5_answers_51 : decode cX5_answers 51 = .ok (.invokestatic 37, 3) := by decide +kernel
theorem dX5_answers_54 : decode cX5_answers 54 = .ok (.invokevirtual 41, 3) := by decide +kernel
theorem dX5_answers_57 : decode cX5_answers 57 = .ok (.ldc2_w 71, 3) := by decide +kernel
theorem dX5_answers_60 : decode cX5_answers 60 = .ok (.lcmp, 1) := by decide +kernel
theorem dX5_answers_61 : decode cX5_answers 61 = .ok (.ifCond .eq 5, 3) := by decide +kernel
theorem dX5_answers_64 : decode cX5_answers 64 = .ok (.iconst 4, 1) := by decide +kernel
theorem dX5_answers_65 : decode cX5_answers 65 = .ok (.ireturn, 1) := by decide +kernel
theorem dX5_answers_66 : decode cX5_answers 66 = .ok (.aload_n 0, 1) := by decide +kernel
theorem dX5_answers_67 : decode cX5_answers 67 = .ok (.iload_n 1, 1) := by decide +kernel
theorem dX5_answers_68 : decode cX5_answers 68 = .ok (.iload_n 3, 1) := by decide +kernel
theorem dX5_answers_69 : decode cX5_answers 69 = .ok (.invokevirtual 47, 3) := by decide +kernel
theorem dX5_answers_72 : decode cX5_answers 72 = .ok (.ifCond .eq 8, 3) := by decide +kernel
theorem dX5_answers_75 : decode cX5_answers 75 = .ok (.iload_n 3, 1) := by decide +kernel
theorem dX5_answers_76 : decode cX5_answers 76 = .ok (.iload_n 2, 1) := by decide +kernel
theorem dX5_answers_77 : decode cX5_answers 77 = .ok (.if_icmp .ne 5, 3) := by decide +kernel
theorem dX5_answers_80 : decode cX5_answers 80 = .ok (.iconst 3, 1) := by decide +kernel
theorem dX5_answers_81 : decode cX5_answers 81 = .ok (.ireturn, 1) := by decide +kernel
theorem dX5_answers_82 : decode cX5_answers 82 = .ok (.aload_n 0, 1) := by decide +kernel
theorem dX5_answers_83 : decode cX5_answers 83 = .ok (.iload_n 1, 1) := by decide +kernel
theorem dX5_answers_84 : decode cX5_answers 84 = .ok (.iload_n 3, 1) := by decide +kernel
theorem dX5_answers_85 : decode cX5_answers 85 = .ok (.iconst 2, 1) := by decide +kernel
theorem dX5_answers_86 : decode cX5_answers 86 = .ok (.invokestatic 37, 3) := by decide +kernel
theorem dX5_answers_89 : decode cX5_answers 89 = .ok (.invokevirtual 41, 3) := by decide +kernel
theorem dX5_answers_92 : decode cX5_answers 92 = .ok (.iload_n 2, 1) := by decide +kernel
theorem dX5_answers_93 : decode cX5_answers 93 = .ok (.i2l, 1) := by decide +kernel
theorem dX5_answers_94 : decode cX5_answers 94 = .ok (.lcmp, 1) := by decide +kernel
theorem dX5_answers_95 : decode cX5_answers 95 = .ok (.ifCond .ne 6, 3) := by decide +kernel
theorem dX5_answers_98 : decode cX5_answers 98 = .ok (.bipush 8, 2) := by decide +kernel
theorem dX5_answers_100 : decode cX5_answers 100 = .ok (.ireturn, 1) := by decide +kernel
theorem dX5_answers_101 : decode cX5_answers 101 = .ok (.aload_n 0, 1) := by decide +kernel
theorem dX5_answers_102 : decode cX5_answers 102 = .ok (.iload_n 1, 1) := by decide +kernel
theorem dX5_answers_103 : decode cX5_answers 103 = .ok (.iload_n 3, 1) := by decide +kernel
theorem dX5_answers_104 : decode cX5_answers 104 = .ok (.iconst 2, 1) := by decide +kernel
theorem dX5_answers_105 : decode cX5_answers 105 = .ok (.invokestatic 37, 3) := by decide +kernel
theorem dX5_answers_108 : decode cX5_answers 108 = .ok (.iload_n 2, 1) := by decide +kernel
theorem dX5_answers_109 : decode cX5_answers 109 = .ok (.i2l, 1) := by decide +kernel
theorem dX5_answers_110 : decode cX5_answers 110 = .ok (.invokevirtual 62, 3) := by decide +kernel
theorem dX5_answers_113 : decode cX5_answers 113 = .ok (.iconst 0, 1) := by decide +kernel
theorem dX5_answers_114 : decode cX5_answers 114 = .ok (.ireturn, 1) := by decide +kernel
theorem dX5_isTold_0 : decode cX5_isTold 0 = .ok (.iconst 0, 1) := by decide +kernel
theorem dX5_isTold_1 : decode cX5_isTold 1 = .ok (.istore_n 3, 1) := by decide +kernel
theorem dX5_isTold_2 : decode cX5_isTold 2 = .ok (.iload_n 3, 1) := by decide +kernel
theorem dX5_isTold_3 : decode cX5_isTold 3 = .ok (.i2l, 1) := by decide +kernel
theorem dX5_isTold_4 : decode cX5_isTold 4 = .ok (.aload_n 0, 1) := by decide +kernel
theorem dX5_isTold_5 : decode cX5_isTold 5 = .ok (.iload_n 1, 1) := by decide +kernel
theorem dX5_isTold_6 : decode cX5_isTold 6 = .ok (.bipush 12, 2) := by decide +kernel
theorem dX5_isTold_8 : decode cX5_isTold 8 = .ok (.invokevirtual 41, 3) := by decide +kernel
theorem dX5_isTold_11 : decode cX5_isTold 11 = .ok (.lcmp, 1) := by decide +kernel
theorem dX5_isTold_12 : decode cX5_isTold 12 = .ok (.ifCond .ge 27, 3) := by decide +kernel
theorem dX5_isTold_15 : decode cX5_isTold 15 = .ok (.aload_n 0, 1) := by decide +kernel
theorem dX5_isTold_16 : decode cX5_isTold 16 = .ok (.iload_n 1, 1) := by decide +kernel
theorem dX5_isTold_17 : decode cX5_isTold 17 = .ok (.sipush 1033, 3) := by decide +kernel
theorem dX5_isTold_20 : decode cX5_isTold 20 = .ok (.iload_n 3, 1) := by decide +kernel
theorem dX5_isTold_21 : decode cX5_isTold 21 = .ok (.iadd, 1) := by decide +kernel
theorem dX5_isTold_22 : decode cX5_isTold 22 = .ok (.invokevirtual 41, 3) := by decide +kernel
theorem dX5_isTold_25 : decode cX5_isTold 25 = .ok (.iload_n 2, 1) := by decide +kernel
theorem dX5_isTold_26 : decode cX5_isTold 26 = .ok (.i2l, 1) := by decide +kernel
theorem dX5_isTold_27 : decode cX5_isTold 27 = .ok (.lcmp, 1) := by decide +kernel
theorem dX5_isTold_28 : decode cX5_isTold 28 = .ok (.ifCond .ne 5, 3) := by decide +kernel
theorem dX5_isTold_31 : decode cX5_isTold 31 = .ok (.iconst 1, 1) := by decide +kernel
theorem dX5_isTold_32 : decode cX5_isTold 32 = .ok (.ireturn, 1) := by decide +kernel
theorem dX5_isTold_33 : decode cX5_isTold 33 = .ok (.iinc 3 1, 3) := by decide +kernel
theorem dX5_isTold_36 : decode cX5_isTold 36 = .ok (.goto (-34), 3) := by decide +kernel
theorem dX5_isTold_39 : decode cX5_isTold 39 = .ok (.iconst 0, 1) := by decide +kernel
theorem dX5_isTold_40 : decode cX5_isTold 40 = .ok (.ireturn, 1) := by decide +kernel
theorem dX5_order_0 : decode cX5_order 0 = .ok (.aload_n 0, 1) := by decide +kernel
theorem dX5_order_1 : decode cX5_order 1 = .ok (.iload_n 1, 1) := by decide +kernel
theorem dX5_order_2 : decode cX5_order 2 = .ok (.invokevirtual 68, 3) := by decide +kernel
theorem dX5_order_5 : decode cX5_order 5 = .ok (.ifCond .ne 5, 3) := by decide +kernel
theorem dX5_order_8 : decode cX5_order 8 = .ok (.iconst 1, 1) := by decide +kernel
theorem dX5_order_9 : decode cX5_order 9 = .ok (.ireturn, 1) := by decide +kernel
theorem dX5_order_10 : decode cX5_order 10 = .ok (.aload_n 0, 1) := by decide +kernel
theorem dX5_order_11 : decode cX5_order 11 = .ok (.iload_n 1, 1) := by decide +kernel
theorem dX5_order_12 : decode cX5_order 12 = .ok (.iconst 4, 1) := by decide +kernel
theorem dX5_order_13 : decode cX5_order 13 = .ok (.invokevirtual 41, 3) := by decide +kernel
theorem dX5_order_16 : decode cX5_order 16 = .ok (.lconst 0, 1) := by decide +kernel
theorem dX5_order_17 : decode cX5_order 17 = .ok (.lcmp, 1) := by decide +kernel
theorem dX5_order_18 : decode cX5_order 18 = .ok (.ifCond .eq 5, 3) := by decide +kernel
theorem dX5_order_21 : decode cX5_order 21 = .ok (.iconst 2, 1) := by decide +kernel
theorem dX5_order_22 : decode cX5_order 22 = .ok (.ireturn, 1) := by decide +kernel
theorem dX5_order_23 : decode cX5_order 23 = .ok (.aload_n 0, 1) := by decide +kernel
theorem dX5_order_24 : decode cX5_order 24 = .ok (.iload_n 1, 1) := by decide +kernel
theorem dX5_order_25 : decode cX5_order 25 = .ok (.iload_n 2, 1) := by decide +kernel
theorem dX5_order_26 : decode cX5_order 26 = .ok (.invokevirtual 47, 3) := by decide +kernel
theorem dX5_order_29 : decode cX5_order 29 = .ok (.ifCond .ne 5, 3) := by decide +kernel
theorem dX5_order_32 : decode cX5_order 32 = .ok (.iconst 3, 1) := by decide +kernel
theorem dX5_order_33 : decode cX5_order 33 = .ok (.ireturn, 1) := by decide +kernel
theorem dX5_order_34 : decode cX5_order 34 = .ok (.aload_n 0, 1) := by decide +kernel
theorem dX5_order_35 : decode cX5_order 35 = .ok (.iload_n 1, 1) := by decide +kernel
theorem dX5_order_36 : decode cX5_order 36 = .ok (.iconst 0, 1) := by decide +kernel
theorem dX5_order_37 : decode cX5_order 37 = .ok (.invokevirtual 41, 3) := by decide +kernel
theorem dX5_order_40 : decode cX5_order 40 = .ok (.lconst 0, 1) := by decide +kernel
theorem dX5_order_41 : decode cX5_order 41 = .ok (.lcmp, 1) := by decide +kernel
theorem dX5_order_42 : decode cX5_order 42 = .ok (.ifCond .eq 5, 3) := by decide +kernel
theorem dX5_order_45 : decode cX5_order 45 = .ok (.iconst 4, 1) := by decide +kernel
theorem dX5_order_46 : decode cX5_order 46 = .ok (.ireturn, 1) := by decide +kernel
theorem dX5_order_47 : decode cX5_order 47 = .ok (.aload_n 0, 1) := by decide +kernel
theorem dX5_order_48 : decode cX5_order 48 = .ok (.iload_n 1, 1) := by decide +kernel
theorem dX5_order_49 : decode cX5_order 49 = .ok (.iload_n 2, 1) := by decide +kernel
theorem dX5_order_50 : decode cX5_order 50 = .ok (.invokevirtual 73, 3) := by decide +kernel
theorem dX5_order_53 : decode cX5_order 53 = .ok (.ifCond .eq 6, 3) := by decide +kernel
theorem dX5_order_56 : decode cX5_order 56 = .ok (.bipush 8, 2) := by decide +kernel
theorem dX5_order_58 : decode cX5_order 58 = .ok (.ireturn, 1) := by decide +kernel
theorem dX5_order_59 : decode cX5_order 59 = .ok (.aload_n 0, 1) := by decide +kernel
theorem dX5_order_60 : decode cX5_order 60 = .ok (.iload_n 1, 1) := by decide +kernel
theorem dX5_order_61 : decode cX5_order 61 = .ok (.sipush 1033, 3) := by decide +kernel
theorem dX5_order_64 : decode cX5_order 64 = .ok (.aload_n 0, 1) := by decide +kernel
theorem dX5_order_65 : decode cX5_order 65 = .ok (.iload_n 1, 1) := by decide +kernel
theorem dX5_order_66 : decode cX5_order 66 = .ok (.bipush 12, 2) := by decide +kernel
theorem dX5_order_68 : decode cX5_order 68 = .ok (.invokevirtual 41, 3) := by decide +kernel
theorem dX5_order_71 : decode cX5_order 71 = .ok (.l2i, 1) := by decide +kernel
theorem dX5_order_72 : decode cX5_order 72 = .ok (.iadd, 1) := by decide +kernel
theorem dX5_order_73 : decode cX5_order 73 = .ok (.iload_n 2, 1) := by decide +kernel
theorem dX5_order_74 : decode cX5_order 74 = .ok (.i2l, 1) := by decide +kernel
theorem dX5_order_75 : decode cX5_order 75 = .ok (.invokevirtual 62, 3) := by decide +kernel
theorem dX5_order_78 : decode cX5_order 78 = .ok (.aload_n 0, 1) := by decide +kernel
theorem dX5_order_79 : decode cX5_order 79 = .ok (.iload_n 1, 1) := by decide +kernel
theorem dX5_order_80 : decode cX5_order 80 = .ok (.bipush 12, 2) := by decide +kernel
theorem dX5_order_82 : decode cX5_order 82 = .ok (.lconst 1, 1) := by decide +kernel
theorem dX5_order_83 : decode cX5_order 83 = .ok (.invokevirtual 76, 3) := by decide +kernel
theorem dX5_order_86 : decode cX5_order 86 = .ok (.iconst 0, 1) := by decide +kernel
theorem dX5_order_87 : decode cX5_order 87 = .ok (.ireturn, 1) := by decide +kernel
theorem dX5_lot_0 : decode cX5_lot 0 = .ok (.aload_n 0, 1) := by decide +kernel
theorem dX5_lot_1 : decode cX5_lot 1 = .ok (.iload_n 1, 1) := by decide +kernel
theorem dX5_lot_2 : decode cX5_lot 2 = .ok (.invokevirtual 68, 3) := by decide +kernel
theorem dX5_lot_5 : decode cX5_lot 5 = .ok (.ifCond .ne 5, 3) := by decide +kernel
theorem dX5_lot_8 : decode cX5_lot 8 = .ok (.iconst 1, 1) := by decide +kernel
theorem dX5_lot_9 : decode cX5_lot 9 = .ok (.ireturn, 1) := by decide +kernel
theorem dX5_lot_10 : decode cX5_lot 10 = .ok (.aload_n 0, 1) := by decide +kernel
theorem dX5_lot_11 : decode cX5_lot 11 = .ok (.iload_n 1, 1) := by decide +kernel
theorem dX5_lot_12 : decode cX5_lot 12 = .ok (.iconst 4, 1) := by decide +kernel
theorem dX5_lot_13 : decode cX5_lot 13 = .ok (.invokevirtual 41, 3) := by decide +kernel
theorem dX5_lot_16 : decode cX5_lot 16 = .ok (.ldc2_w 45, 3) := by decide +kernel
theorem dX5_lot_19 : decode cX5_lot 19 = .ok (.lcmp, 1) := by decide +kernel
theorem dX5_lot_20 : decode cX5_lot 20 = .ok (.ifCond .ne 5, 3) := by decide +kernel
theorem dX5_lot_23 : decode cX5_lot 23 = .ok (.iconst 2, 1) := by decide +kernel
theorem dX5_lot_24 : decode cX5_lot 24 = .ok (.ireturn, 1) := by decide +kernel
theorem dX5_lot_25 : decode cX5_lot 25 = .ok (.aload_n 0, 1) := by decide +kernel
theorem dX5_lot_26 : decode cX5_lot 26 = .ok (.iload_n 1, 1) := by decide +kernel
theorem dX5_lot_27 : decode cX5_lot 27 = .ok (.iconst 0, 1) := by decide +kernel
theorem dX5_lot_28 : decode cX5_lot 28 = .ok (.invokevirtual 41, 3) := by decide +kernel
theorem dX5_lot_31 : decode cX5_lot 31 = .ok (.lconst 1, 1) := by decide +kernel
theorem dX5_lot_32 : decode cX5_lot 32 = .ok (.lcmp, 1) := by decide +kernel
theorem dX5_lot_33 : decode cX5_lot 33 = .ok (.ifCond .eq 5, 3) := by decide +kernel
theorem dX5_lot_36 : decode cX5_lot 36 = .ok (.iconst 4, 1) := by decide +kernel
theorem dX5_lot_37 : decode cX5_lot 37 = .ok (.ireturn, 1) := by decide +kernel
theorem dX5_lot_38 : decode cX5_lot 38 = .ok (.iload_n 2, 1) := by decide +kernel
theorem dX5_lot_39 : decode cX5_lot 39 = .ok (.ifCond .ge 6, 3) := by decide +kernel
theorem dX5_lot_42 : decode cX5_lot 42 = .ok (.bipush 7, 2) := by decide +kernel
theorem dX5_lot_44 : decode cX5_lot 44 = .ok (.ireturn, 1) := by decide +kernel
theorem dX5_lot_45 : decode cX5_lot 45 = .ok (.aload_n 0, 1) := by decide +kernel
theorem dX5_lot_46 : decode cX5_lot 46 = .ok (.iload_n 1, 1) := by decide +kernel
theorem dX5_lot_47 : decode cX5_lot 47 = .ok (.bipush 10, 2) := by decide +kernel
theorem dX5_lot_49 : decode cX5_lot 49 = .ok (.invokevirtual 41, 3) := by decide +kernel
theorem dX5_lot_52 : decode cX5_lot 52 = .ok (.ldc2_w 79, 3) := by decide +kernel
theorem dX5_lot_55 : decode cX5_lot 55 = .ok (.lcmp, 1) := by decide +kernel
theorem dX5_lot_56 : decode cX5_lot 56 = .ok (.ifCond .ne 6, 3) := by decide +kernel
theorem dX5_lot_59 : decode cX5_lot 59 = .ok (.bipush 9, 2) := by decide +kernel
theorem dX5_lot_61 : decode cX5_lot 61 = .ok (.ireturn, 1) := by decide +kernel
theorem dX5_lot_62 : decode cX5_lot 62 = .ok (.aload_n 0, 1) := by decide +kernel
theorem dX5_lot_63 : decode cX5_lot 63 = .ok (.iload_n 1, 1) := by decide +kernel
theorem dX5_lot_64 : decode cX5_lot 64 = .ok (.sipush 1093, 3) := by decide +kernel
theorem dX5_lot_67 : decode cX5_lot 67 = .ok (.aload_n 0, 1) := by decide +kernel
theorem dX5_lot_68 : decode cX5_lot 68 = .ok (.iload_n 1, 1) := by decide +kernel
theorem dX5_lot_69 : decode cX5_lot 69 = .ok (.bipush 10, 2) := by decide +kernel
theorem dX5_lot_71 : decode cX5_lot 71 = .ok (.invokevirtual 41, 3) := by decide +kernel
theorem dX5_lot_74 : decode cX5_lot 74 = .ok (.l2i, 1) := by decide +kernel
theorem dX5_lot_75 : decode cX5_lot 75 = .ok (.iadd, 1) := by decide +kernel
theorem dX5_lot_76 : decode cX5_lot 76 = .ok (.iload_n 2, 1) := by decide +kernel
theorem dX5_lot_77 : decode cX5_lot 77 = .ok (.i2l, 1) := by decide +kernel
theorem dX5_lot_78 : decode cX5_lot 78 = .ok (.invokevirtual 62, 3) := by decide +kernel
theorem dX5_lot_81 : decode cX5_lot 81 = .ok (.aload_n 0, 1) := by decide +kernel
theorem dX5_lot_82 : decode cX5_lot 82 = .ok (.iload_n 1, 1) := by decide +kernel
theorem dX5_lot_83 : decode cX5_lot 83 = .ok (.bipush 10, 2) := by decide +kernel
theorem dX5_lot_85 : decode cX5_lot 85 = .ok (.lconst 1, 1) := by decide +kernel
theorem dX5_lot_86 : decode cX5_lot 86 = .ok (.invokevirtual 76, 3) := by decide +kernel
theorem dX5_lot_89 : decode cX5_lot 89 = .ok (.iconst 0, 1) := by decide +kernel
theorem dX5_lot_90 : decode cX5_lot 90 = .ok (.ireturn, 1) := by decide +kernel
theorem dX5_open_0 : decode cX5_open 0 = .ok (.aload_n 0, 1) := by decide +kernel
theorem dX5_open_1 : decode cX5_open 1 = .ok (.iload_n 1, 1) := by decide +kernel
theorem dX5_open_2 : decode cX5_open 2 = .ok (.invokevirtual 68, 3) := by decide +kernel
theorem dX5_open_5 : decode cX5_open 5 = .ok (.ifCond .ne 5, 3) := by decide +kernel
theorem dX5_open_8 : decode cX5_open 8 = .ok (.iconst 1, 1) := by decide +kernel
theorem dX5_open_9 : decode cX5_open 9 = .ok (.ireturn, 1) := by decide +kernel
theorem dX5_open_10 : decode cX5_open 10 = .ok (.aload_n 0, 1) := by decide +kernel
theorem dX5_open_11 : decode cX5_open 11 = .ok (.iload_n 1, 1) := by decide +kernel
theorem dX5_open_12 : decode cX5_open 12 = .ok (.iconst 4, 1) := by decide +kernel
theorem dX5_open_13 : decode cX5_open 13 = .ok (.invokevirtual 41, 3) := by decide +kernel
theorem dX5_open_16 : decode cX5_open 16 = .ok (.lconst 0, 1) := by decide +kernel
theorem dX5_open_17 : decode cX5_open 17 = .ok (.lcmp, 1) := by decide +kernel
theorem dX5_open_18 : decode cX5_open 18 = .ok (.ifCond .eq 5, 3) := by decide +kernel
theorem dX5_open_21 : decode cX5_open 21 = .ok (.iconst 2, 1) := by decide +kernel
theorem dX5_open_22 : decode cX5_open 22 = .ok (.ireturn, 1) := by decide +kernel
theorem dX5_open_23 : decode cX5_open 23 = .ok (.iconst 0, 1) := by decide +kernel
theorem dX5_open_24 : decode cX5_open 24 = .ok (.istore_n 2, 1) := by decide +kernel
theorem dX5_open_25 : decode cX5_open 25 = .ok (.iconst 0, 1) := by decide +kernel
theorem dX5_open_26 : decode cX5_open 26 = .ok (.istore_n 3, 1) := by decide +kernel
theorem dX5_open_27 : decode cX5_open 27 = .ok (.iload_n 3, 1) := by decide +kernel
theorem dX5_open_28 : decode cX5_open 28 = .ok (.bipush 60, 2) := by decide +kernel
theorem dX5_open_30 : decode cX5_open 30 = .ok (.if_icmp .ge 26, 3) := by decide +kernel
theorem dX5_open_33 : decode cX5_open 33 = .ok (.iload_n 2, 1) := by decide +kernel
theorem dX5_open_34 : decode cX5_open 34 = .ok (.aload_n 0, 1) := by decide +kernel
theorem dX5_open_35 : decode cX5_open 35 = .ok (.iload_n 1, 1) := by decide +kernel
theorem dX5_open_36 : decode cX5_open 36 = .ok (.iload_n 3, 1) := by decide +kernel
theorem dX5_open_37 : decode cX5_open 37 = .ok (.invokevirtual 47, 3) := by decide +kernel
theorem dX5_open_40 : decode cX5_open 40 = .ok (.ifCond .eq 7, 3) := by decide +kernel
theorem dX5_open_43 : decode cX5_open 43 = .ok (.iconst 1, 1) := by decide +kernel
theorem dX5_open_44 : decode cX5_open 44 = .ok (.goto 4, 3) := by decide +kernel
theorem dX5_open_47 : decode cX5_open 47 = .ok (.iconst 0, 1) := by decide +kernel
theorem dX5_open_48 : decode cX5_open 48 = .ok (.iadd, 1) := by decide +kernel
theorem dX5_open_49 : decode cX5_open 49 = .ok (.istore_n 2, 1) := by decide +kernel
theorem dX5_open_50 : decode cX5_open 50 = .ok (.iinc 3 1, 3) := by decide +kernel
theorem dX5_open_53 : decode cX5_open 53 = .ok (.goto (-26), 3) := by decide +kernel
theorem dX5_open_56 : decode cX5_open 56 = .ok (.iload_n 2, 1) := by decide +kernel
theorem dX5_open_57 : decode cX5_open 57 = .ok (.ifCond .ne 5, 3) := by decide +kernel
theorem dX5_open_60 : decode cX5_open 60 = .ok (.iconst 3, 1) := by decide +kernel
theorem dX5_open_61 : decode cX5_open 61 = .ok (.ireturn, 1) := by decide +kernel
theorem dX5_open_62 : decode cX5_open 62 = .ok (.aload_n 0, 1) := by decide +kernel
theorem dX5_open_63 : decode cX5_open 63 = .ok (.iload_n 1, 1) := by decide +kernel
theorem dX5_open_64 : decode cX5_open 64 = .ok (.iconst 4, 1) := by decide +kernel
theorem dX5_open_65 : decode cX5_open 65 = .ok (.lconst 1, 1) := by decide +kernel
theorem dX5_open_66 : decode cX5_open 66 = .ok (.invokevirtual 62, 3) := by decide +kernel
theorem dX5_open_69 : decode cX5_open 69 = .ok (.aload_n 0, 1) := by decide +kernel
theorem dX5_open_70 : decode cX5_open 70 = .ok (.iload_n 1, 1) := by decide +kernel
theorem dX5_open_71 : decode cX5_open 71 = .ok (.bipush 6, 2) := by decide +kernel
theorem dX5_open_73 : decode cX5_open 73 = .ok (.iload_n 2, 1) := by decide +kernel
theorem dX5_open_74 : decode cX5_open 74 = .ok (.i2l, 1) := by decide +kernel
theorem dX5_open_75 : decode cX5_open 75 = .ok (.invokevirtual 62, 3) := by decide +kernel
theorem dX5_open_78 : decode cX5_open 78 = .ok (.iconst 0, 1) := by decide +kernel
theorem dX5_open_79 : decode cX5_open 79 = .ok (.istore_n 3, 1) := by decide +kernel
theorem dX5_open_80 : decode cX5_open 80 = .ok (.iload_n 3, 1) := by decide +kernel
theorem dX5_open_81 : decode cX5_open 81 = .ok (.bipush 60, 2) := by decide +kernel
theorem dX5_open_83 : decode cX5_open 83 = .ok (.if_icmp .ge 93, 3) := by decide +kernel
theorem dX5_open_86 : decode cX5_open 86 = .ok (.aload_n 0, 1) := by decide +kernel
theorem dX5_open_87 : decode cX5_open 87 = .ok (.iload_n 1, 1) := by decide +kernel
theorem dX5_open_88 : decode cX5_open 88 = .ok (.iload_n 3, 1) := by decide +kernel
theorem dX5_open_89 : decode cX5_open 89 = .ok (.iconst 2, 1) := by decide +kernel
theorem dX5_open_90 : decode cX5_open 90 = .ok (.invokestatic 37, 3) := by decide +kernel
theorem dX5_open_93 : decode cX5_open 93 = .ok (.invokevirtual 41, 3) := by decide +kernel
theorem dX5_open_96 : decode cX5_open 96 = .ok (.l2i, 1) := by decide +kernel
theorem dX5_open_97 : decode cX5_open 97 = .ok (.istore 4, 2) := by decide +kernel
theorem dX5_open_99 : decode cX5_open 99 = .ok (.iload 4, 2) := by decide +kernel
theorem dX5_open_101 : decode cX5_open 101 = .ok (.iconst (-1), 1) := by decide +kernel
theorem dX5_open_102 : decode cX5_open 102 = .ok (.if_icmp .eq 43, 3) := by decide +kernel
theorem dX5_open_105 : decode cX5_open 105 = .ok (.aload_n 0, 1) := by decide +kernel
theorem dX5_open_106 : decode cX5_open 106 = .ok (.iload_n 1, 1) := by decide +kernel
theorem dX5_open_107 : decode cX5_open 107 = .ok (.iload_n 3, 1) := by decide +kernel
theorem dX5_open_108 : decode cX5_open 108 = .ok (.invokevirtual 47, 3) := by decide +kernel
theorem dX5_open_111 : decode cX5_open 111 = .ok (.ifCond .eq 21, 3) := by decide +kernel
theorem dX5_open_114 : decode cX5_open 114 = .ok (.aload_n 0, 1) := by decide +kernel
theorem dX5_open_115 : decode cX5_open 115 = .ok (.iload_n 1, 1) := by decide +kernel
theorem dX5_open_116 : decode cX5_open 116 = .ok (.iload 4, 2) := by decide +kernel
theorem dX5_open_118 : decode cX5_open 118 = .ok (.iconst 0, 1) := by decide +kernel
theorem dX5_open_119 : decode cX5_open 119 = .ok (.invokestatic 37, 3) := by decide +kernel
theorem dX5_open_122 : decode cX5_open 122 = .ok (.invokevirtual 41, 3) := by decide +kernel
theorem dX5_open_125 : decode cX5_open 125 = .ok (.ldc2_w 71, 3) := by decide +kernel
theorem dX5_open_128 : decode cX5_open 128 = .ok (.lcmp, 1) := by decide +kernel
theorem dX5_open_129 : decode cX5_open 129 = .ok (.ifCond .eq 16, 3) := by decide +kernel
theorem dX5_open_132 : decode cX5_open 132 = .ok (.aload_n 0, 1) := by decide +kernel
theorem dX5_open_133 : decode cX5_open 133 = .ok (.iload_n 1, 1) := by decide +kernel
theorem dX5_open_134 : decode cX5_open 134 = .ok (.iload_n 3, 1) := by decide +kernel
theorem dX5_open_135 : decode cX5_open 135 = .ok (.iconst 2, 1) := by decide +kernel
theorem dX5_open_136 : decode cX5_open 136 = .ok (.invokestatic 37, 3) := by decide +kernel
theorem dX5_open_139 : decode cX5_open 139 = .ok (.ldc2_w 66, 3) := by decide +kernel
theorem dX5_open_142 : decode cX5_open 142 = .ok (.invokevirtual 62, 3) := by decide +kernel
theorem dX5_open_145 : decode cX5_open 145 = .ok (.aload_n 0, 1) := by decide +kernel
theorem dX5_open_146 : decode cX5_open 146 = .ok (.iload_n 1, 1) := by decide +kernel
theorem dX5_open_147 : decode cX5_open 147 = .ok (.iload_n 3, 1) := by decide +kernel
theorem dX5_open_148 : decode cX5_open 148 = .ok (.bipush 12, 2) := by decide +kernel
theorem dX5_open_150 : decode cX5_open 150 = .ok (.invokestatic 37, 3) := by decide +kernel
theorem dX5_open_153 : decode cX5_open 153 = .ok (.aload_n 0, 1) := by decide +kernel
theorem dX5_open_154 : decode cX5_open 154 = .ok (.iload_n 1, 1) := by decide +kernel
theorem dX5_open_155 : decode cX5_open 155 = .ok (.iload_n 3, 1) := by decide +kernel
theorem dX5_open_156 : decode cX5_open 156 = .ok (.invokevirtual 47, 3) := by decide +kernel
theorem dX5_open_159 : decode cX5_open 159 = .ok (.ifCond .eq 7, 3) := by decide +kernel
theorem dX5_open_162 : decode cX5_open 162 = .ok (.lconst 1, 1) := by decide +kernel
theorem dX5_open_163 : decode cX5_open 163 = .ok (.goto 4, 3) := by decide +kernel
theorem dX5_open_166 : decode cX5_open 166 = .ok (.lconst 0, 1) := by decide +kernel
theorem dX5_open_167 : decode cX5_open 167 = .ok (.invokevirtual 62, 3) := by decide +kernel
theorem dX5_open_170 : decode cX5_open 170 = .ok (.iinc 3 1, 3) := by decide +kernel
theorem dX5_open_173 : decode cX5_open 173 = .ok (.goto (-93), 3) := by decide +kernel
theorem dX5_open_176 : decode cX5_open 176 = .ok (.iconst 0, 1) := by decide +kernel
theorem dX5_open_177 : decode cX5_open 177 = .ok (.ireturn, 1) := by decide +kernel
theorem dX5_against_0 : decode cX5_against 0 = .ok (.aload_n 0, 1) := by decide +kernel
theorem dX5_against_1 : decode cX5_against 1 = .ok (.iload_n 1, 1) := by decide +kernel
theorem dX5_against_2 : decode cX5_against 2 = .ok (.invokevirtual 68, 3) := by decide +kernel
theorem dX5_against_5 : decode cX5_against 5 = .ok (.ifCond .ne 5, 3) := by decide +kernel
theorem dX5_against_8 : decode cX5_against 8 = .ok (.iconst 1, 1) := by decide +kernel
theorem dX5_against_9 : decode cX5_against 9 = .ok (.ireturn, 1) := by decide +kernel
theorem dX5_against_10 : decode cX5_against 10 = .ok (.aload_n 0, 1) := by decide +kernel
theorem dX5_against_11 : decode cX5_against 11 = .ok (.iload_n 1, 1) := by decide +kernel
theorem dX5_against_12 : decode cX5_against 12 = .ok (.iconst 4, 1) := by decide +kernel
theorem dX5_against_13 : decode cX5_against 13 = .ok (.invokevirtual 41, 3) := by decide +kernel
theorem dX5_against_16 : decode cX5_against 16 = .ok (.lconst 1, 1) := by decide +kernel
theorem dX5_against_17 : decode cX5_against 17 = .ok (.lcmp, 1) := by decide +kernel
theorem dX5_against_18 : decode cX5_against 18 = .ok (.ifCond .eq 5, 3) := by decide +kernel
theorem dX5_against_21 : decode cX5_against 21 = .ok (.iconst 2, 1) := by decide +kernel
theorem dX5_against_22 : decode cX5_against 22 = .ok (.ireturn, 1) := by decide +kernel
theorem dX5_against_23 : decode cX5_against 23 = .ok (.aload_n 0, 1) := by decide +kernel
theorem dX5_against_24 : decode cX5_against 24 = .ok (.iload_n 1, 1) := by decide +kernel
theorem dX5_against_25 : decode cX5_against 25 = .ok (.iload_n 2, 1) := by decide +kernel
theorem dX5_against_26 : decode cX5_against 26 = .ok (.invokevirtual 51, 3) := by decide +kernel
theorem dX5_against_29 : decode cX5_against 29 = .ok (.ifCond .ne 5, 3) := by decide +kernel
theorem dX5_against_32 : decode cX5_against 32 = .ok (.iconst 3, 1) := by decide +kernel
theorem dX5_against_33 : decode cX5_against 33 = .ok (.ireturn, 1) := by decide +kernel
theorem dX5_against_34 : decode cX5_against 34 = .ok (.aload_n 0, 1) := by decide +kernel
theorem dX5_against_35 : decode cX5_against 35 = .ok (.iload_n 1, 1) := by decide +kernel
theorem dX5_against_36 : decode cX5_against 36 = .ok (.iload_n 2, 1) := by decide +kernel
theorem dX5_against_37 : decode cX5_against 37 = .ok (.invokevirtual 54, 3) := by decide +kernel
theorem dX5_against_40 : decode cX5_against 40 = .ok (.ifCond .eq 8, 3) := by decide +kernel
theorem dX5_against_43 : decode cX5_against 43 = .ok (.bipush 10, 2) := by decide +kernel
theorem dX5_against_45 : decode cX5_against 45 = .ok (.goto 4, 3) := by decide +kernel
theorem dX5_against_48 : decode cX5_against 48 = .ok (.iconst 0, 1) := by decide +kernel
theorem dX5_against_49 : decode cX5_against 49 = .ok (.ireturn, 1) := by decide +kernel
theorem dX5_deposit_0 : decode cX5_deposit 0 = .ok (.aload_n 0, 1) := by decide +kernel
theorem dX5_deposit_1 : decode cX5_deposit 1 = .ok (.iload_n 1, 1) := by decide +kernel
theorem dX5_deposit_2 : decode cX5_deposit 2 = .ok (.iload_n 2, 1) := by decide +kernel
theorem dX5_deposit_3 : decode cX5_deposit 3 = .ok (.invokevirtual 81, 3) := by decide +kernel
theorem dX5_deposit_6 : decode cX5_deposit 6 = .ok (.istore 4, 2) := by decide +kernel
theorem dX5_deposit_8 : decode cX5_deposit 8 = .ok (.iload 4, 2) := by decide +kernel
theorem dX5_deposit_10 : decode cX5_deposit 10 = .ok (.ifCond .eq 6, 3) := by decide +kernel
theorem dX5_deposit_13 : decode cX5_deposit 13 = .ok (.iload 4, 2) := by decide +kernel
theorem dX5_deposit_15 : decode cX5_deposit 15 = .ok (.ireturn, 1) := by decide +kernel
theorem dX5_deposit_16 : decode cX5_deposit 16 = .ok (.aload_n 0, 1) := by decide +kernel
theorem dX5_deposit_17 : decode cX5_deposit 17 = .ok (.iload_n 1, 1) := by decide +kernel
theorem dX5_deposit_18 : decode cX5_deposit 18 = .ok (.iload_n 2, 1) := by decide +kernel
theorem dX5_deposit_19 : decode cX5_deposit 19 = .ok (.iconst 0, 1) := by decide +kernel
theorem dX5_deposit_20 : decode cX5_deposit 20 = .ok (.invokestatic 37, 3) := by decide +kernel
theorem dX5_deposit_23 : decode cX5_deposit 23 = .ok (.invokevirtual 41, 3) := by decide +kernel
theorem dX5_deposit_26 : decode cX5_deposit 26 = .ok (.ldc2_w 71, 3) := by decide +kernel
theorem dX5_deposit_29 : decode cX5_deposit 29 = .ok (.lcmp, 1) := by decide +kernel
theorem dX5_deposit_30 : decode cX5_deposit 30 = .ok (.ifCond .eq 5, 3) := by decide +kernel
theorem dX5_deposit_33 : decode cX5_deposit 33 = .ok (.iconst 4, 1) := by decide +kernel
theorem dX5_deposit_34 : decode cX5_deposit 34 = .ok (.ireturn, 1) := by decide +kernel
theorem dX5_deposit_35 : decode cX5_deposit 35 = .ok (.iload_n 3, 1) := by decide +kernel
theorem dX5_deposit_36 : decode cX5_deposit 36 = .ok (.iconst 1, 1) := by decide +kernel
theorem dX5_deposit_37 : decode cX5_deposit 37 = .ok (.if_icmp .lt 9, 3) := by decide +kernel
theorem dX5_deposit_40 : decode cX5_deposit 40 = .ok (.iload_n 3, 1) := by decide +kernel
theorem dX5_deposit_41 : decode cX5_deposit 41 = .ok (.ldc 84, 2) := by decide +kernel
theorem dX5_deposit_43 : decode cX5_deposit 43 = .ok (.if_icmp .le 6, 3) := by decide +kernel
theorem dX5_deposit_46 : decode cX5_deposit 46 = .ok (.bipush 7, 2) := by decide +kernel
theorem dX5_deposit_48 : decode cX5_deposit 48 = .ok (.ireturn, 1) := by decide +kernel
theorem dX5_deposit_49 : decode cX5_deposit 49 = .ok (.aload_n 0, 1) := by decide +kernel
theorem dX5_deposit_50 : decode cX5_deposit 50 = .ok (.iload_n 1, 1) := by decide +kernel
theorem dX5_deposit_51 : decode cX5_deposit 51 = .ok (.iload_n 2, 1) := by decide +kernel
theorem dX5_deposit_52 : decode cX5_deposit 52 = .ok (.bipush 7, 2) := by decide +kernel
theorem dX5_deposit_54 : decode cX5_deposit 54 = .ok (.invokestatic 37, 3) := by decide +kernel
theorem dX5_deposit_57 : decode cX5_deposit 57 = .ok (.iload_n 3, 1) := by decide +kernel
theorem dX5_deposit_58 : decode cX5_deposit 58 = .ok (.i2l, 1) := by decide +kernel
theorem dX5_deposit_59 : decode cX5_deposit 59 = .ok (.invokevirtual 76, 3) := by decide +kernel
theorem dX5_deposit_62 : decode cX5_deposit 62 = .ok (.iconst 0, 1) := by decide +kernel
theorem dX5_deposit_63 : decode cX5_deposit 63 = .ok (.ireturn, 1) := by decide +kernel
theorem dX5_comesBack_0 : decode cX5_comesBack 0 = .ok (.aload_n 0, 1) := by decide +kernel
theorem dX5_comesBack_1 : decode cX5_comesBack 1 = .ok (.iload_n 1, 1) := by decide +kernel
theorem dX5_comesBack_2 : decode cX5_comesBack 2 = .ok (.iload_n 2, 1) := by decide +kernel
theorem dX5_comesBack_3 : decode cX5_comesBack 3 = .ok (.bipush 8, 2) := by decide +kernel
theorem dX5_comesBack_5 : decode cX5_comesBack 5 = .ok (.invokestatic 37, 3) := by decide +kernel
theorem dX5_comesBack_8 : decode cX5_comesBack 8 = .ok (.aload_n 0, 1) := by decide +kernel
theorem dX5_comesBack_9 : decode cX5_comesBack 9 = .ok (.iload_n 1, 1) := by decide +kernel
theorem dX5_comesBack_10 : decode cX5_comesBack 10 = .ok (.iload_n 2, 1) := by decide +kernel
theorem dX5_comesBack_11 : decode cX5_comesBack 11 = .ok (.bipush 13, 2) := by decide +kernel
theorem dX5_comesBack_13 : decode cX5_comesBack 13 = .ok (.invokestatic 37, 3) := by decide +kernel
theorem dX5_comesBack_16 : decode cX5_comesBack 16 = .ok (.invokevirtual 41, 3) := by decide +kernel
theorem dX5_comesBack_19 : decode cX5_comesBack 19 = .ok (.lneg, 1) := by decide +kernel
theorem dX5_comesBack_20 : decode cX5_comesBack 20 = .ok (.invokevirtual 76, 3) := by decide +kernel
theorem dX5_comesBack_23 : decode cX5_comesBack 23 = .ok (.aload_n 0, 1) := by decide +kernel
theorem dX5_comesBack_24 : decode cX5_comesBack 24 = .ok (.iload_n 1, 1) := by decide +kernel
theorem dX5_comesBack_25 : decode cX5_comesBack 25 = .ok (.iload_n 2, 1) := by decide +kernel
theorem dX5_comesBack_26 : decode cX5_comesBack 26 = .ok (.bipush 13, 2) := by decide +kernel
theorem dX5_comesBack_28 : decode cX5_comesBack 28 = .ok (.invokestatic 37, 3) := by decide +kernel
theorem dX5_comesBack_31 : decode cX5_comesBack 31 = .ok (.lconst 0, 1) := by decide +kernel
theorem dX5_comesBack_32 : decode cX5_comesBack 32 = .ok (.invokevirtual 62, 3) := by decide +kernel
theorem dX5_comesBack_35 : decode cX5_comesBack 35 = .ok (.aload_n 0, 1) := by decide +kernel
theorem dX5_comesBack_36 : decode cX5_comesBack 36 = .ok (.iload_n 1, 1) := by decide +kernel
theorem dX5_comesBack_37 : decode cX5_comesBack 37 = .ok (.iload_n 2, 1) := by decide +kernel
theorem dX5_comesBack_38 : decode cX5_comesBack 38 = .ok (.bipush 14, 2) := by decide +kernel
theorem dX5_comesBack_40 : decode cX5_comesBack 40 = .ok (.invokestatic 37, 3) := by decide +kernel
theorem dX5_comesBack_43 : decode cX5_comesBack 43 = .ok (.lconst 0, 1) := by decide +kernel
theorem dX5_comesBack_44 : decode cX5_comesBack 44 = .ok (.invokevirtual 62, 3) := by decide +kernel
theorem dX5_comesBack_47 : decode cX5_comesBack 47 = .ok (.return_, 1) := by decide +kernel
theorem dX5_rowGoes_0 : decode cX5_rowGoes 0 = .ok (.iconst 0, 1) := by decide +kernel
theorem dX5_rowGoes_1 : decode cX5_rowGoes 1 = .ok (.istore_n 2, 1) := by decide +kernel
theorem dX5_rowGoes_2 : decode cX5_rowGoes 2 = .ok (.iload_n 2, 1) := by decide +kernel
theorem dX5_rowGoes_3 : decode cX5_rowGoes 3 = .ok (.bipush 60, 2) := by decide +kernel
theorem dX5_rowGoes_5 : decode cX5_rowGoes 5 = .ok (.if_icmp .ge 15, 3) := by decide +kernel
theorem dX5_rowGoes_8 : decode cX5_rowGoes 8 = .ok (.aload_n 0, 1) := by decide +kernel
theorem dX5_rowGoes_9 : decode cX5_rowGoes 9 = .ok (.iload_n 1, 1) := by decide +kernel
theorem dX5_rowGoes_10 : decode cX5_rowGoes 10 = .ok (.iload_n 2, 1) := by decide +kernel
theorem dX5_rowGoes_11 : decode cX5_rowGoes 11 = .ok (.invokevirtual 85, 3) := by decide +kernel
theorem dX5_rowGoes_14 : decode cX5_rowGoes 14 = .ok (.iinc 2 1, 3) := by decide +kernel
theorem dX5_rowGoes_17 : decode cX5_rowGoes 17 = .ok (.goto (-15), 3) := by decide +kernel
theorem dX5_rowGoes_20 : decode cX5_rowGoes 20 = .ok (.aload_n 0, 1) := by decide +kernel
theorem dX5_rowGoes_21 : decode cX5_rowGoes 21 = .ok (.iload_n 1, 1) := by decide +kernel
theorem dX5_rowGoes_22 : decode cX5_rowGoes 22 = .ok (.bipush 7, 2) := by decide +kernel
theorem dX5_rowGoes_24 : decode cX5_rowGoes 24 = .ok (.ldc2_w 66, 3) := by decide +kernel
theorem dX5_rowGoes_27 : decode cX5_rowGoes 27 = .ok (.invokevirtual 62, 3) := by decide +kernel
theorem dX5_rowGoes_30 : decode cX5_rowGoes 30 = .ok (.return_, 1) := by decide +kernel
theorem dX5_row_0 : decode cX5_row 0 = .ok (.aload_n 0, 1) := by decide +kernel
theorem dX5_row_1 : decode cX5_row 1 = .ok (.iload_n 1, 1) := by decide +kernel
theorem dX5_row_2 : decode cX5_row 2 = .ok (.invokevirtual 68, 3) := by decide +kernel
theorem dX5_row_5 : decode cX5_row 5 = .ok (.ifCond .ne 5, 3) := by decide +kernel
theorem dX5_row_8 : decode cX5_row 8 = .ok (.iconst 1, 1) := by decide +kernel
theorem dX5_row_9 : decode cX5_row 9 = .ok (.ireturn, 1) := by decide +kernel
theorem dX5_row_10 : decode cX5_row 10 = .ok (.aload_n 0, 1) := by decide +kernel
theorem dX5_row_11 : decode cX5_row 11 = .ok (.iload_n 1, 1) := by decide +kernel
theorem dX5_row_12 : decode cX5_row 12 = .ok (.iconst 4, 1) := by decide +kernel
theorem dX5_row_13 : decode cX5_row 13 = .ok (.invokevirtual 41, 3) := by decide +kernel
theorem dX5_row_16 : decode cX5_row 16 = .ok (.lconst 1, 1) := by decide +kernel
theorem dX5_row_17 : decode cX5_row 17 = .ok (.lcmp, 1) := by decide +kernel
theorem dX5_row_18 : decode cX5_row 18 = .ok (.ifCond .eq 5, 3) := by decide +kernel
theorem dX5_row_21 : decode cX5_row 21 = .ok (.iconst 2, 1) := by decide +kernel
theorem dX5_row_22 : decode cX5_row 22 = .ok (.ireturn, 1) := by decide +kernel
theorem dX5_row_23 : decode cX5_row 23 = .ok (.aload_n 0, 1) := by decide +kernel
theorem dX5_row_24 : decode cX5_row 24 = .ok (.iload_n 1, 1) := by decide +kernel
theorem dX5_row_25 : decode cX5_row 25 = .ok (.iconst 5, 1) := by decide +kernel
theorem dX5_row_26 : decode cX5_row 26 = .ok (.invokevirtual 41, 3) := by decide +kernel
theorem dX5_row_29 : decode cX5_row 29 = .ok (.aload_n 0, 1) := by decide +kernel
theorem dX5_row_30 : decode cX5_row 30 = .ok (.iload_n 1, 1) := by decide +kernel
theorem dX5_row_31 : decode cX5_row 31 = .ok (.bipush 6, 2) := by decide +kernel
theorem dX5_row_33 : decode cX5_row 33 = .ok (.invokevirtual 41, 3) := by decide +kernel
theorem dX5_row_36 : decode cX5_row 36 = .ok (.lcmp, 1) := by decide +kernel
theorem dX5_row_37 : decode cX5_row 37 = .ok (.ifCond .ne 6, 3) := by decide +kernel
theorem dX5_row_40 : decode cX5_row 40 = .ok (.bipush 8, 2) := by decide +kernel
theorem dX5_row_42 : decode cX5_row 42 = .ok (.ireturn, 1) := by decide +kernel
theorem dX5_row_43 : decode cX5_row 43 = .ok (.iload_n 2, 1) := by decide +kernel
theorem dX5_row_44 : decode cX5_row 44 = .ok (.ifCond .lt 9, 3) := by decide +kernel
theorem dX5_row_47 : decode cX5_row 47 = .ok (.iload_n 2, 1) := by decide +kernel
theorem dX5_row_48 : decode cX5_row 48 = .ok (.bipush 60, 2) := by decide +kernel
theorem dX5_row_50 : decode cX5_row 50 = .ok (.if_icmp .le 6, 3) := by decide +kernel
theorem dX5_row_53 : decode cX5_row 53 = .ok (.bipush 7, 2) := by decide +kernel
theorem dX5_row_55 : decode cX5_row 55 = .ok (.ireturn, 1) := by decide +kernel
theorem dX5_row_56 : decode cX5_row 56 = .ok (.aload_n 0, 1) := by decide +kernel
theorem dX5_row_57 : decode cX5_row 57 = .ok (.iload_n 1, 1) := by decide +kernel
theorem dX5_row_58 : decode cX5_row 58 = .ok (.invokevirtual 89, 3) := by decide +kernel
theorem dX5_row_61 : decode cX5_row 61 = .ok (.aload_n 0, 1) := by decide +kernel
theorem dX5_row_62 : decode cX5_row 62 = .ok (.iload_n 1, 1) := by decide +kernel
theorem dX5_row_63 : decode cX5_row 63 = .ok (.bipush 7, 2) := by decide +kernel
theorem dX5_row_65 : decode cX5_row 65 = .ok (.iload_n 2, 1) := by decide +kernel
theorem dX5_row_66 : decode cX5_row 66 = .ok (.i2l, 1) := by decide +kernel
theorem dX5_row_67 : decode cX5_row 67 = .ok (.invokevirtual 62, 3) := by decide +kernel
theorem dX5_row_70 : decode cX5_row 70 = .ok (.iconst 0, 1) := by decide +kernel
theorem dX5_row_71 : decode cX5_row 71 = .ok (.ireturn, 1) := by decide +kernel
theorem dX5_tear_0 : decode cX5_tear 0 = .ok (.aload_n 0, 1) := by decide +kernel
theorem dX5_tear_1 : decode cX5_tear 1 = .ok (.iload_n 1, 1) := by decide +kernel
theorem dX5_tear_2 : decode cX5_tear 2 = .ok (.invokevirtual 68, 3) := by decide +kernel
theorem dX5_tear_5 : decode cX5_tear 5 = .ok (.ifCond .ne 5, 3) := by decide +kernel
theorem dX5_tear_8 : decode cX5_tear 8 = .ok (.iconst 1, 1) := by decide +kernel
theorem dX5_tear_9 : decode cX5_tear 9 = .ok (.ireturn, 1) := by decide +kernel
theorem dX5_tear_10 : decode cX5_tear 10 = .ok (.aload_n 0, 1) := by decide +kernel
theorem dX5_tear_11 : decode cX5_tear 11 = .ok (.iload_n 1, 1) := by decide +kernel
theorem dX5_tear_12 : decode cX5_tear 12 = .ok (.iconst 4, 1) := by decide +kernel
theorem dX5_tear_13 : decode cX5_tear 13 = .ok (.invokevirtual 41, 3) := by decide +kernel
theorem dX5_tear_16 : decode cX5_tear 16 = .ok (.lconst 1, 1) := by decide +kernel
theorem dX5_tear_17 : decode cX5_tear 17 = .ok (.lcmp, 1) := by decide +kernel
theorem dX5_tear_18 : decode cX5_tear 18 = .ok (.ifCond .eq 5, 3) := by decide +kernel
theorem dX5_tear_21 : decode cX5_tear 21 = .ok (.iconst 2, 1) := by decide +kernel
theorem dX5_tear_22 : decode cX5_tear 22 = .ok (.ireturn, 1) := by decide +kernel
theorem dX5_tear_23 : decode cX5_tear 23 = .ok (.aload_n 0, 1) := by decide +kernel
theorem dX5_tear_24 : decode cX5_tear 24 = .ok (.iload_n 1, 1) := by decide +kernel
theorem dX5_tear_25 : decode cX5_tear 25 = .ok (.bipush 7, 2) := by decide +kernel
theorem dX5_tear_27 : decode cX5_tear 27 = .ok (.invokevirtual 41, 3) := by decide +kernel
theorem dX5_tear_30 : decode cX5_tear 30 = .ok (.ldc2_w 66, 3) := by decide +kernel
theorem dX5_tear_33 : decode cX5_tear 33 = .ok (.lcmp, 1) := by decide +kernel
theorem dX5_tear_34 : decode cX5_tear 34 = .ok (.ifCond .ne 5, 3) := by decide +kernel
theorem dX5_tear_37 : decode cX5_tear 37 = .ok (.iconst 5, 1) := by decide +kernel
theorem dX5_tear_38 : decode cX5_tear 38 = .ok (.ireturn, 1) := by decide +kernel
theorem dX5_tear_39 : decode cX5_tear 39 = .ok (.aload_n 0, 1) := by decide +kernel
theorem dX5_tear_40 : decode cX5_tear 40 = .ok (.iload_n 1, 1) := by decide +kernel
theorem dX5_tear_41 : decode cX5_tear 41 = .ok (.invokevirtual 89, 3) := by decide +kernel
theorem dX5_tear_44 : decode cX5_tear 44 = .ok (.iconst 0, 1) := by decide +kernel
theorem dX5_tear_45 : decode cX5_tear 45 = .ok (.ireturn, 1) := by decide +kernel
theorem dX5_pay_0 : decode cX5_pay 0 = .ok (.aload_n 0, 1) := by decide +kernel
theorem dX5_pay_1 : decode cX5_pay 1 = .ok (.iload_n 1, 1) := by decide +kernel
theorem dX5_pay_2 : decode cX5_pay 2 = .ok (.iload_n 2, 1) := by decide +kernel
theorem dX5_pay_3 : decode cX5_pay 3 = .ok (.invokevirtual 81, 3) := by decide +kernel
theorem dX5_pay_6 : decode cX5_pay 6 = .ok (.istore 4, 2) := by decide +kernel
theorem dX5_pay_8 : decode cX5_pay 8 = .ok (.iload 4, 2) := by decide +kernel
theorem dX5_pay_10 : decode cX5_pay 10 = .ok (.ifCond .eq 6, 3) := by decide +kernel
theorem dX5_pay_13 : decode cX5_pay 13 = .ok (.iload 4, 2) := by decide +kernel
theorem dX5_pay_15 : decode cX5_pay 15 = .ok (.ireturn, 1) := by decide +kernel
theorem dX5_pay_16 : decode cX5_pay 16 = .ok (.aload_n 0, 1) := by decide +kernel
theorem dX5_pay_17 : decode cX5_pay 17 = .ok (.iload_n 1, 1) := by decide +kernel
theorem dX5_pay_18 : decode cX5_pay 18 = .ok (.iload_n 2, 1) := by decide +kernel
theorem dX5_pay_19 : decode cX5_pay 19 = .ok (.iconst 0, 1) := by decide +kernel
theorem dX5_pay_20 : decode cX5_pay 20 = .ok (.invokestatic 37, 3) := by decide +kernel
theorem dX5_pay_23 : decode cX5_pay 23 = .ok (.invokevirtual 41, 3) := by decide +kernel
theorem dX5_pay_26 : decode cX5_pay 26 = .ok (.ldc2_w 93, 3) := by decide +kernel
theorem dX5_pay_29 : decode cX5_pay 29 = .ok (.lcmp, 1) := by decide +kernel
theorem dX5_pay_30 : decode cX5_pay 30 = .ok (.ifCond .ne 7, 3) := by decide +kernel
theorem dX5_pay_33 : decode cX5_pay 33 = .ok (.iconst 1, 1) := by decide +kernel
theorem dX5_pay_34 : decode cX5_pay 34 = .ok (.goto 4, 3) := by decide +kernel
theorem dX5_pay_37 : decode cX5_pay 37 = .ok (.iconst 0, 1) := by decide +kernel
theorem dX5_pay_38 : decode cX5_pay 38 = .ok (.istore 5, 2) := by decide +kernel
theorem dX5_pay_40 : decode cX5_pay 40 = .ok (.iload_n 3, 1) := by decide +kernel
theorem dX5_pay_41 : decode cX5_pay 41 = .ok (.iconst 1, 1) := by decide +kernel
theorem dX5_pay_42 : decode cX5_pay 42 = .ok (.if_icmp .ne 10, 3) := by decide +kernel
theorem dX5_pay_45 : decode cX5_pay 45 = .ok (.iload 5, 2) := by decide +kernel
theorem dX5_pay_47 : decode cX5_pay 47 = .ok (.ifCond .ne 5, 3) := by decide +kernel
theorem dX5_pay_50 : decode cX5_pay 50 = .ok (.iconst 4, 1) := by decide +kernel
theorem dX5_pay_51 : decode cX5_pay 51 = .ok (.ireturn, 1) := by decide +kernel
theorem dX5_pay_52 : decode cX5_pay 52 = .ok (.iload_n 3, 1) := by decide +kernel
theorem dX5_pay_53 : decode cX5_pay 53 = .ok (.ifCond .lt 8, 3) := by decide +kernel
theorem dX5_pay_56 : decode cX5_pay 56 = .ok (.iload_n 3, 1) := by decide +kernel
theorem dX5_pay_57 : decode cX5_pay 57 = .ok (.iconst 1, 1) := by decide +kernel
theorem dX5_pay_58 : decode cX5_pay 58 = .ok (.if_icmp .le 6, 3) := by decide +kernel
theorem dX5_pay_61 : decode cX5_pay 61 = .ok (.bipush 7, 2) := by decide +kernel
theorem dX5_pay_63 : decode cX5_pay 63 = .ok (.ireturn, 1) := by decide +kernel
theorem dX5_pay_64 : decode cX5_pay 64 = .ok (.aload_n 0, 1) := by decide +kernel
theorem dX5_pay_65 : decode cX5_pay 65 = .ok (.iload_n 1, 1) := by decide +kernel
theorem dX5_pay_66 : decode cX5_pay 66 = .ok (.bipush 7, 2) := by decide +kernel
theorem dX5_pay_68 : decode cX5_pay 68 = .ok (.invokevirtual 41, 3) := by decide +kernel
theorem dX5_pay_71 : decode cX5_pay 71 = .ok (.ldc2_w 66, 3) := by decide +kernel
theorem dX5_pay_74 : decode cX5_pay 74 = .ok (.lcmp, 1) := by decide +kernel
theorem dX5_pay_75 : decode cX5_pay 75 = .ok (.ifCond .ne 5, 3) := by decide +kernel
theorem dX5_pay_78 : decode cX5_pay 78 = .ok (.iconst 5, 1) := by decide +kernel
theorem dX5_pay_79 : decode cX5_pay 79 = .ok (.ireturn, 1) := by decide +kernel
theorem dX5_pay_80 : decode cX5_pay 80 = .ok (.iload_n 2, 1) := by decide +kernel
theorem dX5_pay_81 : decode cX5_pay 81 = .ok (.i2l, 1) := by decide +kernel
theorem dX5_pay_82 : decode cX5_pay 82 = .ok (.aload_n 0, 1) := by decide +kernel
theorem dX5_pay_83 : decode cX5_pay 83 = .ok (.iload_n 1, 1) := by decide +kernel
theorem dX5_pay_84 : decode cX5_pay 84 = .ok (.bipush 7, 2) := by decide +kernel
theorem dX5_pay_86 : decode cX5_pay 86 = .ok (.invokevirtual 41, 3) := by decide +kernel
theorem dX5_pay_89 : decode cX5_pay 89 = .ok (.lcmp, 1) := by decide +kernel
theorem dX5_pay_90 : decode cX5_pay 90 = .ok (.ifCond .lt 6, 3) := by decide +kernel
theorem dX5_pay_93 : decode cX5_pay 93 = .ok (.bipush 6, 2) := by decide +kernel
theorem dX5_pay_95 : decode cX5_pay 95 = .ok (.ireturn, 1) := by decide +kernel
theorem dX5_pay_96 : decode cX5_pay 96 = .ok (.aload_n 0, 1) := by decide +kernel
theorem dX5_pay_97 : decode cX5_pay 97 = .ok (.iload_n 1, 1) := by decide +kernel
theorem dX5_pay_98 : decode cX5_pay 98 = .ok (.iload_n 2, 1) := by decide +kernel
theorem dX5_pay_99 : decode cX5_pay 99 = .ok (.bipush 14, 2) := by decide +kernel
theorem dX5_pay_101 : decode cX5_pay 101 = .ok (.invokestatic 37, 3) := by decide +kernel
theorem dX5_pay_104 : decode cX5_pay 104 = .ok (.invokevirtual 41, 3) := by decide +kernel
theorem dX5_pay_107 : decode cX5_pay 107 = .ok (.lstore 6, 2) := by decide +kernel
theorem dX5_pay_109 : decode cX5_pay 109 = .ok (.lload 6, 2) := by decide +kernel
theorem dX5_pay_111 : decode cX5_pay 111 = .ok (.iload_n 3, 1) := by decide +kernel
theorem dX5_pay_112 : decode cX5_pay 112 = .ok (.lshr, 1) := by decide +kernel
theorem dX5_pay_113 : decode cX5_pay 113 = .ok (.lconst 1, 1) := by decide +kernel
theorem dX5_pay_114 : decode cX5_pay 114 = .ok (.land, 1) := by decide +kernel
theorem dX5_pay_115 : decode cX5_pay 115 = .ok (.lconst 1, 1) := by decide +kernel
theorem dX5_pay_116 : decode cX5_pay 116 = .ok (.lcmp, 1) := by decide +kernel
theorem dX5_pay_117 : decode cX5_pay 117 = .ok (.ifCond .ne 6, 3) := by decide +kernel
theorem dX5_pay_120 : decode cX5_pay 120 = .ok (.bipush 8, 2) := by decide +kernel
theorem dX5_pay_122 : decode cX5_pay 122 = .ok (.ireturn, 1) := by decide +kernel
theorem dX5_pay_123 : decode cX5_pay 123 = .ok (.aload_n 0, 1) := by decide +kernel
theorem dX5_pay_124 : decode cX5_pay 124 = .ok (.iload_n 1, 1) := by decide +kernel
theorem dX5_pay_125 : decode cX5_pay 125 = .ok (.iconst 1, 1) := by decide +kernel
theorem dX5_pay_126 : decode cX5_pay 126 = .ok (.invokevirtual 41, 3) := by decide +kernel
theorem dX5_pay_129 : decode cX5_pay 129 = .ok (.lstore 8, 2) := by decide +kernel
theorem dX5_pay_131 : decode cX5_pay 131 = .ok (.iload 5, 2) := by decide +kernel
theorem dX5_pay_133 : decode cX5_pay 133 = .ok (.ifCond .ne 8, 3) := by decide +kernel
theorem dX5_pay_136 : decode cX5_pay 136 = .ok (.lload 8, 2) := by decide +kernel
theorem dX5_pay_138 : decode cX5_pay 138 = .ok (.goto 26, 3) := by decide +kernel
theorem dX5_pay_141 : decode cX5_pay 141 = .ok (.iload_n 3, 1) := by decide +kernel
theorem dX5_pay_142 : decode cX5_pay 142 = .ok (.iconst 1, 1) := by decide +kernel
theorem dX5_pay_143 : decode cX5_pay 143 = .ok (.if_icmp .ne 12, 3) := by decide +kernel
theorem dX5_pay_146 : decode cX5_pay 146 = .ok (.lload 8, 2) := by decide +kernel
theorem dX5_pay_148 : decode cX5_pay 148 = .ok (.ldc2_w 45, 3) := by decide +kernel
theorem dX5_pay_151 : decode cX5_pay 151 = .ok (.ldiv, 1) := by decide +kernel
theorem dX5_pay_152 : decode cX5_pay 152 = .ok (.goto 12, 3) := by decide +kernel
theorem dX5_pay_155 : decode cX5_pay 155 = .ok (.lload 8, 2) := by decide +kernel
theorem dX5_pay_157 : decode cX5_pay 157 = .ok (.lload 8, 2) := by decide +kernel
theorem dX5_pay_159 : decode cX5_pay 159 = .ok (.ldc2_w 45, 3) := by decide +kernel
theorem dX5_pay_162 : decode cX5_pay 162 = .ok (.ldiv, 1) := by decide +kernel
theorem dX5_pay_163 : decode cX5_pay 163 = .ok (.lsub, 1) := by decide +kernel
theorem dX5_pay_164 : decode cX5_pay 164 = .ok (.lstore 10, 2) := by decide +kernel
theorem dX5_pay_166 : decode cX5_pay 166 = .ok (.aload_n 0, 1) := by decide +kernel
theorem dX5_pay_167 : decode cX5_pay 167 = .ok (.iload_n 1, 1) := by decide +kernel
theorem dX5_pay_168 : decode cX5_pay 168 = .ok (.iload_n 2, 1) := by decide +kernel
theorem dX5_pay_169 : decode cX5_pay 169 = .ok (.bipush 14, 2) := by decide +kernel
theorem dX5_pay_171 : decode cX5_pay 171 = .ok (.invokestatic 37, 3) := by decide +kernel
theorem dX5_pay_174 : decode cX5_pay 174 = .ok (.lload 6, 2) := by decide +kernel
theorem dX5_pay_176 : decode cX5_pay 176 = .ok (.lconst 1, 1) := by decide +kernel
theorem dX5_pay_177 : decode cX5_pay 177 = .ok (.iload_n 3, 1) := by decide +kernel
theorem dX5_pay_178 : decode cX5_pay 178 = .ok (.lshl, 1) := by decide +kernel
theorem dX5_pay_179 : decode cX5_pay 179 = .ok (.lor, 1) := by decide +kernel
theorem dX5_pay_180 : decode cX5_pay 180 = .ok (.invokevirtual 62, 3) := by decide +kernel
theorem dX5_pay_183 : decode cX5_pay 183 = .ok (.aload_n 0, 1) := by decide +kernel
theorem dX5_pay_184 : decode cX5_pay 184 = .ok (.iload_n 1, 1) := by decide +kernel
theorem dX5_pay_185 : decode cX5_pay 185 = .ok (.iload_n 2, 1) := by decide +kernel
theorem dX5_pay_186 : decode cX5_pay 186 = .ok (.bipush 13, 2) := by decide +kernel
theorem dX5_pay_188 : decode cX5_pay 188 = .ok (.invokestatic 37, 3) := by decide +kernel
theorem dX5_pay_191 : decode cX5_pay 191 = .ok (.lload 10, 2) := by decide +kernel
theorem dX5_pay_193 : decode cX5_pay 193 = .ok (.invokevirtual 76, 3) := by decide +kernel
theorem dX5_pay_196 : decode cX5_pay 196 = .ok (.aload_n 0, 1) := by decide +kernel
theorem dX5_pay_197 : decode cX5_pay 197 = .ok (.iload_n 1, 1) := by decide +kernel
theorem dX5_pay_198 : decode cX5_pay 198 = .ok (.iload_n 2, 1) := by decide +kernel
theorem dX5_pay_199 : decode cX5_pay 199 = .ok (.bipush 8, 2) := by decide +kernel
theorem dX5_pay_201 : decode cX5_pay 201 = .ok (.invokestatic 37, 3) := by decide +kernel
theorem dX5_pay_204 : decode cX5_pay 204 = .ok (.lload 10, 2) := by decide +kernel
theorem dX5_pay_206 : decode cX5_pay 206 = .ok (.invokevirtual 76, 3) := by decide +kernel
theorem dX5_pay_209 : decode cX5_pay 209 = .ok (.iconst 0, 1) := by decide +kernel
theorem dX5_pay_210 : decode cX5_pay 210 = .ok (.ireturn, 1) := by decide +kernel
theorem dX5_came_0 : decode cX5_came 0 = .ok (.aload_n 0, 1) := by decide +kernel
theorem dX5_came_1 : decode cX5_came 1 = .ok (.iload_n 1, 1) := by decide +kernel
theorem dX5_came_2 : decode cX5_came 2 = .ok (.invokevirtual 68, 3) := by decide +kernel
theorem dX5_came_5 : decode cX5_came 5 = .ok (.ifCond .eq 23, 3) := by decide +kernel
theorem dX5_came_8 : decode cX5_came 8 = .ok (.iload_n 2, 1) := by decide +kernel
theorem dX5_came_9 : decode cX5_came 9 = .ok (.invokestatic 33, 3) := by decide +kernel
theorem dX5_came_12 : decode cX5_came 12 = .ok (.ifCond .eq 16, 3) := by decide +kernel
theorem dX5_came_15 : decode cX5_came 15 = .ok (.iload_n 2, 1) := by decide +kernel
theorem dX5_came_16 : decode cX5_came 16 = .ok (.i2l, 1) := by decide +kernel
theorem dX5_came_17 : decode cX5_came 17 = .ok (.aload_n 0, 1) := by decide +kernel
theorem dX5_came_18 : decode cX5_came 18 = .ok (.iload_n 1, 1) := by decide +kernel
theorem dX5_came_19 : decode cX5_came 19 = .ok (.bipush 7, 2) := by decide +kernel
theorem dX5_came_21 : decode cX5_came 21 = .ok (.invokevirtual 41, 3) := by decide +kernel
theorem dX5_came_24 : decode cX5_came 24 = .ok (.lcmp, 1) := by decide +kernel
theorem dX5_came_25 : decode cX5_came 25 = .ok (.ifCond .lt 7, 3) := by decide +kernel
theorem dX5_came_28 : decode cX5_came 28 = .ok (.iconst (-1), 1) := by decide +kernel
theorem dX5_came_29 : decode cX5_came 29 = .ok (.goto 15, 3) := by decide +kernel
theorem dX5_came_32 : decode cX5_came 32 = .ok (.aload_n 0, 1) := by decide +kernel
theorem dX5_came_33 : decode cX5_came 33 = .ok (.iload_n 1, 1) := by decide +kernel
theorem dX5_came_34 : decode cX5_came 34 = .ok (.iload_n 2, 1) := by decide +kernel
theorem dX5_came_35 : decode cX5_came 35 = .ok (.bipush 13, 2) := by decide +kernel
theorem dX5_came_37 : decode cX5_came 37 = .ok (.invokestatic 37, 3) := by decide +kernel
theorem dX5_came_40 : decode cX5_came 40 = .ok (.invokevirtual 41, 3) := by decide +kernel
theorem dX5_came_43 : decode cX5_came 43 = .ok (.l2i, 1) := by decide +kernel
theorem dX5_came_44 : decode cX5_came 44 = .ok (.ireturn, 1) := by decide +kernel
theorem dX5_late_0 : decode cX5_late 0 = .ok (.aload_n 0, 1) := by decide +kernel
theorem dX5_late_1 : decode cX5_late 1 = .ok (.iload_n 1, 1) := by decide +kernel
theorem dX5_late_2 : decode cX5_late 2 = .ok (.iload_n 2, 1) := by decide +kernel
theorem dX5_late_3 : decode cX5_late 3 = .ok (.invokevirtual 81, 3) := by decide +kernel
theorem dX5_late_6 : decode cX5_late 6 = .ok (.istore_n 3, 1) := by decide +kernel
theorem dX5_late_7 : decode cX5_late 7 = .ok (.iload_n 3, 1) := by decide +kernel
theorem dX5_late_8 : decode cX5_late 8 = .ok (.ifCond .eq 5, 3) := by decide +kernel
theorem dX5_late_11 : decode cX5_late 11 = .ok (.iload_n 3, 1) := by decide +kernel
theorem dX5_late_12 : decode cX5_late 12 = .ok (.ireturn, 1) := by decide +kernel
theorem dX5_late_13 : decode cX5_late 13 = .ok (.aload_n 0, 1) := by decide +kernel
theorem dX5_late_14 : decode cX5_late 14 = .ok (.iload_n 1, 1) := by decide +kernel
theorem dX5_late_15 : decode cX5_late 15 = .ok (.iload_n 2, 1) := by decide +kernel
theorem dX5_late_16 : decode cX5_late 16 = .ok (.iconst 5, 1) := by decide +kernel
theorem dX5_late_17 : decode cX5_late 17 = .ok (.invokestatic 37, 3) := by decide +kernel
theorem dX5_late_20 : decode cX5_late 20 = .ok (.invokevirtual 41, 3) := by decide +kernel
theorem dX5_late_23 : decode cX5_late 23 = .ok (.lstore 4, 2) := by decide +kernel
theorem dX5_late_25 : decode cX5_late 25 = .ok (.lload 4, 2) := by decide +kernel
theorem dX5_late_27 : decode cX5_late 27 = .ok (.lconst 0, 1) := by decide +kernel
theorem dX5_late_28 : decode cX5_late 28 = .ok (.lcmp, 1) := by decide +kernel
theorem dX5_late_29 : decode cX5_late 29 = .ok (.ifCond .ne 6, 3) := by decide +kernel
theorem dX5_late_32 : decode cX5_late 32 = .ok (.bipush 8, 2) := by decide +kernel
theorem dX5_late_34 : decode cX5_late 34 = .ok (.ireturn, 1) := by decide +kernel
theorem dX5_late_35 : decode cX5_late 35 = .ok (.aload_n 0, 1) := by decide +kernel
theorem dX5_late_36 : decode cX5_late 36 = .ok (.iload_n 1, 1) := by decide +kernel
theorem dX5_late_37 : decode cX5_late 37 = .ok (.iconst 3, 1) := by decide +kernel
theorem dX5_late_38 : decode cX5_late 38 = .ok (.lload 4, 2) := by decide +kernel
theorem dX5_late_40 : decode cX5_late 40 = .ok (.aload_n 0, 1) := by decide +kernel
theorem dX5_late_41 : decode cX5_late 41 = .ok (.iload_n 1, 1) := by decide +kernel
theorem dX5_late_42 : decode cX5_late 42 = .ok (.iconst 2, 1) := by decide +kernel
theorem dX5_late_43 : decode cX5_late 43 = .ok (.invokevirtual 41, 3) := by decide +kernel
theorem dX5_late_46 : decode cX5_late 46 = .ok (.ladd, 1) := by decide +kernel
theorem dX5_late_47 : decode cX5_late 47 = .ok (.invokevirtual 76, 3) := by decide +kernel
theorem dX5_late_50 : decode cX5_late 50 = .ok (.aload_n 0, 1) := by decide +kernel
theorem dX5_late_51 : decode cX5_late 51 = .ok (.iload_n 1, 1) := by decide +kernel
theorem dX5_late_52 : decode cX5_late 52 = .ok (.bipush 11, 2) := by decide +kernel
theorem dX5_late_54 : decode cX5_late 54 = .ok (.aload_n 0, 1) := by decide +kernel
theorem dX5_late_55 : decode cX5_late 55 = .ok (.iload_n 1, 1) := by decide +kernel
theorem dX5_late_56 : decode cX5_late 56 = .ok (.iconst 2, 1) := by decide +kernel
theorem dX5_late_57 : decode cX5_late 57 = .ok (.invokevirtual 41, 3) := by decide +kernel
theorem dX5_late_60 : decode cX5_late 60 = .ok (.invokevirtual 76, 3) := by decide +kernel
theorem dX5_late_63 : decode cX5_late 63 = .ok (.aload_n 0, 1) := by decide +kernel
theorem dX5_late_64 : decode cX5_late 64 = .ok (.iload_n 1, 1) := by decide +kernel
theorem dX5_late_65 : decode cX5_late 65 = .ok (.iload_n 2, 1) := by decide +kernel
theorem dX5_late_66 : decode cX5_late 66 = .ok (.bipush 8, 2) := by decide +kernel
theorem dX5_late_68 : decode cX5_late 68 = .ok (.invokestatic 37, 3) := by decide +kernel
theorem dX5_late_71 : decode cX5_late 71 = .ok (.lload 4, 2) := by decide +kernel
theorem dX5_late_73 : decode cX5_late 73 = .ok (.invokevirtual 76, 3) := by decide +kernel
theorem dX5_late_76 : decode cX5_late 76 = .ok (.aload_n 0, 1) := by decide +kernel
theorem dX5_late_77 : decode cX5_late 77 = .ok (.iload_n 1, 1) := by decide +kernel
theorem dX5_late_78 : decode cX5_late 78 = .ok (.iload_n 2, 1) := by decide +kernel
theorem dX5_late_79 : decode cX5_late 79 = .ok (.iconst 5, 1) := by decide +kernel
theorem dX5_late_80 : decode cX5_late 80 = .ok (.invokestatic 37, 3) := by decide +kernel
theorem dX5_late_83 : decode cX5_late 83 = .ok (.lconst 0, 1) := by decide +kernel
theorem dX5_late_84 : decode cX5_late 84 = .ok (.invokevirtual 62, 3) := by decide +kernel
theorem dX5_late_87 : decode cX5_late 87 = .ok (.iconst 0, 1) := by decide +kernel
theorem dX5_late_88 : decode cX5_late 88 = .ok (.ireturn, 1) := by decide +kernel
theorem dX5_againstKind_0 : decode cX5_againstKind 0 = .ok (.aload_n 0, 1) := by decide +kernel
theorem dX5_againstKind_1 : decode cX5_againstKind 1 = .ok (.iload_n 1, 1) := by decide +kernel
theorem dX5_againstKind_2 : decode cX5_againstKind 2 = .ok (.invokevirtual 68, 3) := by decide +kernel
theorem dX5_againstKind_5 : decode cX5_againstKind 5 = .ok (.ifCond .ne 7, 3) := by decide +kernel
theorem dX5_againstKind_8 : decode cX5_againstKind 8 = .ok (.iconst 1, 1) := by decide +kernel
theorem dX5_againstKind_9 : decode cX5_againstKind 9 = .ok (.goto 35, 3) := by decide +kernel
theorem dX5_againstKind_12 : decode cX5_againstKind 12 = .ok (.aload_n 0, 1) := by decide +kernel
theorem dX5_againstKind_13 : decode cX5_againstKind 13 = .ok (.iload_n 1, 1) := by decide +kernel
theorem dX5_againstKind_14 : decode cX5_againstKind 14 = .ok (.iconst 4, 1) := by decide +kernel
theorem dX5_againstKind_15 : decode cX5_againstKind 15 = .ok (.invokevirtual 41, 3) := by decide +kernel
theorem dX5_againstKind_18 : decode cX5_againstKind 18 = .ok (.lconst 1, 1) := by decide +kernel
theorem dX5_againstKind_19 : decode cX5_againstKind 19 = .ok (.lcmp, 1) := by decide +kernel
theorem dX5_againstKind_20 : decode cX5_againstKind 20 = .ok (.ifCond .eq 7, 3) := by decide +kernel
theorem dX5_againstKind_23 : decode cX5_againstKind 23 = .ok (.iconst 2, 1) := by decide +kernel
theorem dX5_againstKind_24 : decode cX5_againstKind 24 = .ok (.goto 20, 3) := by decide +kernel
theorem dX5_againstKind_27 : decode cX5_againstKind 27 = .ok (.aload_n 0, 1) := by decide +kernel
theorem dX5_againstKind_28 : decode cX5_againstKind 28 = .ok (.iload_n 1, 1) := by decide +kernel
theorem dX5_againstKind_29 : decode cX5_againstKind 29 = .ok (.iconst 0, 1) := by decide +kernel
theorem dX5_againstKind_30 : decode cX5_againstKind 30 = .ok (.invokevirtual 41, 3) := by decide +kernel
theorem dX5_againstKind_33 : decode cX5_againstKind 33 = .ok (.iload_n 2, 1) := by decide +kernel
theorem dX5_againstKind_34 : decode cX5_againstKind 34 = .ok (.i2l, 1) := by decide +kernel
theorem dX5_againstKind_35 : decode cX5_againstKind 35 = .ok (.lcmp, 1) := by decide +kernel
theorem dX5_againstKind_36 : decode cX5_againstKind 36 = .ok (.ifCond .eq 7, 3) := by decide +kernel
theorem dX5_againstKind_39 : decode cX5_againstKind 39 = .ok (.iconst 4, 1) := by decide +kernel
theorem dX5_againstKind_40 : decode cX5_againstKind 40 = .ok (.goto 4, 3) := by decide +kernel
theorem dX5_againstKind_43 : decode cX5_againstKind 43 = .ok (.iconst 0, 1) := by decide +kernel
theorem dX5_againstKind_44 : decode cX5_againstKind 44 = .ok (.ireturn, 1) := by decide +kernel
theorem dX5_bid_0 : decode cX5_bid 0 = .ok (.aload_n 0, 1) := by decide +kernel
theorem dX5_bid_1 : decode cX5_bid 1 = .ok (.iload_n 1, 1) := by decide +kernel
theorem dX5_bid_2 : decode cX5_bid 2 = .ok (.iconst 2, 1) := by decide +kernel
theorem dX5_bid_3 : decode cX5_bid 3 = .ok (.invokevirtual 95, 3) := by decide +kernel
theorem dX5_bid_6 : decode cX5_bid 6 = .ok (.istore 5, 2) := by decide +kernel
theorem dX5_bid_8 : decode cX5_bid 8 = .ok (.iload 5, 2) := by decide +kernel
theorem dX5_bid_10 : decode cX5_bid 10 = .ok (.ifCond .ne 11, 3) := by decide +kernel
theorem dX5_bid_13 : decode cX5_bid 13 = .ok (.aload_n 0, 1) := by decide +kernel
theorem dX5_bid_14 : decode cX5_bid 14 = .ok (.iload_n 1, 1) := by decide +kernel
theorem dX5_bid_15 : decode cX5_bid 15 = .ok (.iload_n 2, 1) := by decide +kernel
theorem dX5_bid_16 : decode cX5_bid 16 = .ok (.invokevirtual 81, 3) := by decide +kernel
theorem dX5_bid_19 : decode cX5_bid 19 = .ok (.istore 5, 2) := by decide +kernel
theorem dX5_bid_21 : decode cX5_bid 21 = .ok (.iload 5, 2) := by decide +kernel
theorem dX5_bid_23 : decode cX5_bid 23 = .ok (.ifCond .eq 6, 3) := by decide +kernel
theorem dX5_bid_26 : decode cX5_bid 26 = .ok (.iload 5, 2) := by decide +kernel
theorem dX5_bid_28 : decode cX5_bid 28 = .ok (.ireturn, 1) := by decide +kernel
theorem dX5_bid_29 : decode cX5_bid 29 = .ok (.aload_n 0, 1) := by decide +kernel
theorem dX5_bid_30 : decode cX5_bid 30 = .ok (.iload_n 1, 1) := by decide +kernel
theorem dX5_bid_31 : decode cX5_bid 31 = .ok (.iload_n 2, 1) := by decide +kernel
theorem dX5_bid_32 : decode cX5_bid 32 = .ok (.iconst 3, 1) := by decide +kernel
theorem dX5_bid_33 : decode cX5_bid 33 = .ok (.invokestatic 37, 3) := by decide +kernel
theorem dX5_bid_36 : decode cX5_bid 36 = .ok (.invokevirtual 41, 3) := by decide +kernel
theorem dX5_bid_39 : decode cX5_bid 39 = .ok (.lconst 1, 1) := by decide +kernel
theorem dX5_bid_40 : decode cX5_bid 40 = .ok (.lcmp, 1) := by decide +kernel
theorem dX5_bid_41 : decode cX5_bid 41 = .ok (.ifCond .ne 6, 3) := by decide +kernel
theorem dX5_bid_44 : decode cX5_bid 44 = .ok (.bipush 8, 2) := by decide +kernel
theorem dX5_bid_46 : decode cX5_bid 46 = .ok (.ireturn, 1) := by decide +kernel
theorem dX5_bid_47 : decode cX5_bid 47 = .ok (.lload_n 3, 1) := by decide +kernel
theorem dX5_bid_48 : decode cX5_bid 48 = .ok (.lconst 0, 1) := by decide +kernel
theorem dX5_bid_49 : decode cX5_bid 49 = .ok (.lcmp, 1) := by decide +kernel
theorem dX5_bid_50 : decode cX5_bid 50 = .ok (.ifCond .lt 13, 3) := by decide +kernel
theorem dX5_bid_53 : decode cX5_bid 53 = .ok (.lload_n 3, 1) := by decide +kernel
theorem dX5_bid_54 : decode cX5_bid 54 = .ok (.aload_n 0, 1) := by decide +kernel
theorem dX5_bid_55 : decode cX5_bid 55 = .ok (.iload_n 1, 1) := by decide +kernel
theorem dX5_bid_56 : decode cX5_bid 56 = .ok (.invokevirtual 98, 3) := by decide +kernel
theorem dX5_bid_59 : decode cX5_bid 59 = .ok (.lcmp, 1) := by decide +kernel
theorem dX5_bid_60 : decode cX5_bid 60 = .ok (.ifCond .le 6, 3) := by decide +kernel
theorem dX5_bid_63 : decode cX5_bid 63 = .ok (.bipush 7, 2) := by decide +kernel
theorem dX5_bid_65 : decode cX5_bid 65 = .ok (.ireturn, 1) := by decide +kernel
theorem dX5_bid_66 : decode cX5_bid 66 = .ok (.aload_n 0, 1) := by decide +kernel
theorem dX5_bid_67 : decode cX5_bid 67 = .ok (.iload_n 1, 1) := by decide +kernel
theorem dX5_bid_68 : decode cX5_bid 68 = .ok (.iload_n 2, 1) := by decide +kernel
theorem dX5_bid_69 : decode cX5_bid 69 = .ok (.bipush 15, 2) := by decide +kernel
theorem dX5_bid_71 : decode cX5_bid 71 = .ok (.invokestatic 37, 3) := by decide +kernel
theorem dX5_bid_74 : decode cX5_bid 74 = .ok (.lload_n 3, 1) := by decide +kernel
theorem dX5_bid_75 : decode cX5_bid 75 = .ok (.invokevirtual 62, 3) := by decide +kernel
theorem dX5_bid_78 : decode cX5_bid 78 = .ok (.iconst 0, 1) := by decide +kernel
theorem dX5_bid_79 : decode cX5_bid 79 = .ok (.ireturn, 1) := by decide +kernel
theorem dX5_nobodySays_0 : decode cX5_nobodySays 0 = .ok (.iconst 0, 1) := by decide +kernel
theorem dX5_nobodySays_1 : decode cX5_nobodySays 1 = .ok (.istore_n 2, 1) := by decide +kernel
theorem dX5_nobodySays_2 : decode cX5_nobodySays 2 = .ok (.iload_n 2, 1) := by decide +kernel
theorem dX5_nobodySays_3 : decode cX5_nobodySays 3 = .ok (.bipush 60, 2) := by decide +kernel
theorem dX5_nobodySays_5 : decode cX5_nobodySays 5 = .ok (.if_icmp .ge 21, 3) := by decide +kernel
theorem dX5_nobodySays_8 : decode cX5_nobodySays 8 = .ok (.aload_n 0, 1) := by decide +kernel
theorem dX5_nobodySays_9 : decode cX5_nobodySays 9 = .ok (.iload_n 1, 1) := by decide +kernel
theorem dX5_nobodySays_10 : decode cX5_nobodySays 10 = .ok (.iload_n 2, 1) := by decide +kernel
theorem dX5_nobodySays_11 : decode cX5_nobodySays 11 = .ok (.bipush 16, 2) := by decide +kernel
theorem dX5_nobodySays_13 : decode cX5_nobodySays 13 = .ok (.invokestatic 37, 3) := by decide +kernel
theorem dX5_nobodySays_16 : decode cX5_nobodySays 16 = .ok (.lconst 0, 1) := by decide +kernel
theorem dX5_nobodySays_17 : decode cX5_nobodySays 17 = .ok (.invokevirtual 62, 3) := by decide +kernel
theorem dX5_nobodySays_20 : decode cX5_nobodySays 20 = .ok (.iinc 2 1, 3) := by decide +kernel
theorem dX5_nobodySays_23 : decode cX5_nobodySays 23 = .ok (.goto (-21), 3) := by decide +kernel
theorem dX5_nobodySays_26 : decode cX5_nobodySays 26 = .ok (.return_, 1) := by decide +kernel
theorem dX5_need_0 : decode cX5_need 0 = .ok (.aload_n 0, 1) := by decide +kernel
theorem dX5_need_1 : decode cX5_need 1 = .ok (.iload_n 1, 1) := by decide +kernel
theorem dX5_need_2 : decode cX5_need 2 = .ok (.iconst 3, 1) := by decide +kernel
theorem dX5_need_3 : decode cX5_need 3 = .ok (.invokevirtual 95, 3) := by decide +kernel
theorem dX5_need_6 : decode cX5_need 6 = .ok (.istore_n 3, 1) := by decide +kernel
theorem dX5_need_7 : decode cX5_need 7 = .ok (.iload_n 3, 1) := by decide +kernel
theorem dX5_need_8 : decode cX5_need 8 = .ok (.ifCond .ne 10, 3) := by decide +kernel
theorem dX5_need_11 : decode cX5_need 11 = .ok (.aload_n 0, 1) := by decide +kernel
theorem dX5_need_12 : decode cX5_need 12 = .ok (.iload_n 1, 1) := by decide +kernel
theorem dX5_need_13 : decode cX5_need 13 = .ok (.iload_n 2, 1) := by decide +kernel
theorem dX5_need_14 : decode cX5_need 14 = .ok (.invokevirtual 81, 3) := by decide +kernel
theorem dX5_need_17 : decode cX5_need 17 = .ok (.istore_n 3, 1) := by decide +kernel
theorem dX5_need_18 : decode cX5_need 18 = .ok (.iload_n 3, 1) := by decide +kernel
theorem dX5_need_19 : decode cX5_need 19 = .ok (.ifCond .eq 5, 3) := by decide +kernel
theorem dX5_need_22 : decode cX5_need 22 = .ok (.iload_n 3, 1) := by decide +kernel
theorem dX5_need_23 : decode cX5_need 23 = .ok (.ireturn, 1) := by decide +kernel
theorem dX5_need_24 : decode cX5_need 24 = .ok (.aload_n 0, 1) := by decide +kernel
theorem dX5_need_25 : decode cX5_need 25 = .ok (.iload_n 1, 1) := by decide +kernel
theorem dX5_need_26 : decode cX5_need 26 = .ok (.iload_n 2, 1) := by decide +kernel
theorem dX5_need_27 : decode cX5_need 27 = .ok (.iconst 3, 1) := by decide +kernel
theorem dX5_need_28 : decode cX5_need 28 = .ok (.invokestatic 37, 3) := by decide +kernel
theorem dX5_need_31 : decode cX5_need 31 = .ok (.invokevirtual 41, 3) := by decide +kernel
theorem dX5_need_34 : decode cX5_need 34 = .ok (.lconst 1, 1) := by decide +kernel
theorem dX5_need_35 : decode cX5_need 35 = .ok (.lcmp, 1) := by decide +kernel
theorem dX5_need_36 : decode cX5_need 36 = .ok (.ifCond .ne 6, 3) := by decide +kernel
theorem dX5_need_39 : decode cX5_need 39 = .ok (.bipush 8, 2) := by decide +kernel
theorem dX5_need_41 : decode cX5_need 41 = .ok (.ireturn, 1) := by decide +kernel
theorem dX5_need_42 : decode cX5_need 42 = .ok (.aload_n 0, 1) := by decide +kernel
theorem dX5_need_43 : decode cX5_need 43 = .ok (.iload_n 1, 1) := by decide +kernel
theorem dX5_need_44 : decode cX5_need 44 = .ok (.bipush 9, 2) := by decide +kernel
theorem dX5_need_46 : decode cX5_need 46 = .ok (.iload_n 2, 1) := by decide +kernel
theorem dX5_need_47 : decode cX5_need 47 = .ok (.i2l, 1) := by decide +kernel
theorem dX5_need_48 : decode cX5_need 48 = .ok (.invokevirtual 62, 3) := by decide +kernel
theorem dX5_need_51 : decode cX5_need 51 = .ok (.aload_n 0, 1) := by decide +kernel
theorem dX5_need_52 : decode cX5_need 52 = .ok (.iload_n 1, 1) := by decide +kernel
theorem dX5_need_53 : decode cX5_need 53 = .ok (.invokevirtual 102, 3) := by decide +kernel
theorem dX5_need_56 : decode cX5_need 56 = .ok (.iconst 0, 1) := by decide +kernel
theorem dX5_need_57 : decode cX5_need 57 = .ok (.ireturn, 1) := by decide +kernel
theorem dX5_yes_0 : decode cX5_yes 0 = .ok (.aload_n 0, 1) := by decide +kernel
theorem dX5_yes_1 : decode cX5_yes 1 = .ok (.iload_n 1, 1) := by decide +kernel
theorem dX5_yes_2 : decode cX5_yes 2 = .ok (.iconst 3, 1) := by decide +kernel
theorem dX5_yes_3 : decode cX5_yes 3 = .ok (.invokevirtual 95, 3) := by decide +kernel
theorem dX5_yes_6 : decode cX5_yes 6 = .ok (.istore_n 3, 1) := by decide +kernel
theorem dX5_yes_7 : decode cX5_yes 7 = .ok (.iload_n 3, 1) := by decide +kernel
theorem dX5_yes_8 : decode cX5_yes 8 = .ok (.ifCond .eq 5, 3) := by decide +kernel
theorem dX5_yes_11 : decode cX5_yes 11 = .ok (.iload_n 3, 1) := by decide +kernel
theorem dX5_yes_12 : decode cX5_yes 12 = .ok (.ireturn, 1) := by decide +kernel
theorem dX5_yes_13 : decode cX5_yes 13 = .ok (.aload_n 0, 1) := by decide +kernel
theorem dX5_yes_14 : decode cX5_yes 14 = .ok (.iload_n 1, 1) := by decide +kernel
theorem dX5_yes_15 : decode cX5_yes 15 = .ok (.iload_n 2, 1) := by decide +kernel
theorem dX5_yes_16 : decode cX5_yes 16 = .ok (.invokevirtual 51, 3) := by decide +kernel
theorem dX5_yes_19 : decode cX5_yes 19 = .ok (.ifCond .eq 17, 3) := by decide +kernel
theorem dX5_yes_22 : decode cX5_yes 22 = .ok (.aload_n 0, 1) := by decide +kernel
theorem dX5_yes_23 : decode cX5_yes 23 = .ok (.iload_n 1, 1) := by decide +kernel
theorem dX5_yes_24 : decode cX5_yes 24 = .ok (.bipush 9, 2) := by decide +kernel
theorem dX5_yes_26 : decode cX5_yes 26 = .ok (.invokevirtual 41, 3) := by decide +kernel
theorem dX5_yes_29 : decode cX5_yes 29 = .ok (.ldc2_w 66, 3) := by decide +kernel
theorem dX5_yes_32 : decode cX5_yes 32 = .ok (.lcmp, 1) := by decide +kernel
theorem dX5_yes_33 : decode cX5_yes 33 = .ok (.ifCond .ne 5, 3) := by decide +kernel
theorem dX5_yes_36 : decode cX5_yes 36 = .ok (.iconst 3, 1) := by decide +kernel
theorem dX5_yes_37 : decode cX5_yes 37 = .ok (.ireturn, 1) := by decide +kernel
theorem dX5_yes_38 : decode cX5_yes 38 = .ok (.aload_n 0, 1) := by decide +kernel
theorem dX5_yes_39 : decode cX5_yes 39 = .ok (.iload_n 1, 1) := by decide +kernel
theorem dX5_yes_40 : decode cX5_yes 40 = .ok (.iload_n 2, 1) := by decide +kernel
theorem dX5_yes_41 : decode cX5_yes 41 = .ok (.invokevirtual 54, 3) := by decide +kernel
theorem dX5_yes_44 : decode cX5_yes 44 = .ok (.ifCond .eq 6, 3) := by decide +kernel
theorem dX5_yes_47 : decode cX5_yes 47 = .ok (.bipush 10, 2) := by decide +kernel
theorem dX5_yes_49 : decode cX5_yes 49 = .ok (.ireturn, 1) := by decide +kernel
theorem dX5_yes_50 : decode cX5_yes 50 = .ok (.aload_n 0, 1) := by decide +kernel
theorem dX5_yes_51 : decode cX5_yes 51 = .ok (.iload_n 1, 1) := by decide +kernel
theorem dX5_yes_52 : decode cX5_yes 52 = .ok (.iload_n 2, 1) := by decide +kernel
theorem dX5_yes_53 : decode cX5_yes 53 = .ok (.iconst 3, 1) := by decide +kernel
theorem dX5_yes_54 : decode cX5_yes 54 = .ok (.invokestatic 37, 3) := by decide +kernel
theorem dX5_yes_57 : decode cX5_yes 57 = .ok (.invokevirtual 41, 3) := by decide +kernel
theorem dX5_yes_60 : decode cX5_yes 60 = .ok (.lconst 1, 1) := by decide +kernel
theorem dX5_yes_61 : decode cX5_yes 61 = .ok (.lcmp, 1) := by decide +kernel
theorem dX5_yes_62 : decode cX5_yes 62 = .ok (.ifCond .eq 19, 3) := by decide +kernel
theorem dX5_yes_65 : decode cX5_yes 65 = .ok (.aload_n 0, 1) := by decide +kernel
theorem dX5_yes_66 : decode cX5_yes 66 = .ok (.iload_n 1, 1) := by decide +kernel
theorem dX5_yes_67 : decode cX5_yes 67 = .ok (.iload_n 2, 1) := by decide +kernel
theorem dX5_yes_68 : decode cX5_yes 68 = .ok (.bipush 16, 2) := by decide +kernel
theorem dX5_yes_70 : decode cX5_yes 70 = .ok (.invokestatic 37, 3) := by decide +kernel
theorem dX5_yes_73 : decode cX5_yes 73 = .ok (.invokevirtual 41, 3) := by decide +kernel
theorem dX5_yes_76 : decode cX5_yes 76 = .ok (.lconst 1, 1) := by decide +kernel
theorem dX5_yes_77 : decode cX5_yes 77 = .ok (.lcmp, 1) := by decide +kernel
theorem dX5_yes_78 : decode cX5_yes 78 = .ok (.ifCond .ne 6, 3) := by decide +kernel
theorem dX5_yes_81 : decode cX5_yes 81 = .ok (.bipush 8, 2) := by decide +kernel
theorem dX5_yes_83 : decode cX5_yes 83 = .ok (.ireturn, 1) := by decide +kernel
theorem dX5_yes_84 : decode cX5_yes 84 = .ok (.aload_n 0, 1) := by decide +kernel
theorem dX5_yes_85 : decode cX5_yes 85 = .ok (.iload_n 1, 1) := by decide +kernel
theorem dX5_yes_86 : decode cX5_yes 86 = .ok (.iload_n 2, 1) := by decide +kernel
theorem dX5_yes_87 : decode cX5_yes 87 = .ok (.bipush 16, 2) := by decide +kernel
theorem dX5_yes_89 : decode cX5_yes 89 = .ok (.invokestatic 37, 3) := by decide +kernel
theorem dX5_yes_92 : decode cX5_yes 92 = .ok (.lconst 1, 1) := by decide +kernel
theorem dX5_yes_93 : decode cX5_yes 93 = .ok (.invokevirtual 62, 3) := by decide +kernel
theorem dX5_yes_96 : decode cX5_yes 96 = .ok (.iconst 0, 1) := by decide +kernel
theorem dX5_yes_97 : decode cX5_yes 97 = .ok (.ireturn, 1) := by decide +kernel
theorem dX5_said_0 : decode cX5_said 0 = .ok (.lconst 0, 1) := by decide +kernel
theorem dX5_said_1 : decode cX5_said 1 = .ok (.lstore_n 2, 1) := by decide +kernel
theorem dX5_said_2 : decode cX5_said 2 = .ok (.iconst 0, 1) := by decide +kernel
theorem dX5_said_3 : decode cX5_said 3 = .ok (.istore 4, 2) := by decide +kernel
theorem dX5_said_5 : decode cX5_said 5 = .ok (.iload 4, 2) := by decide +kernel
theorem dX5_said_7 : decode cX5_said 7 = .ok (.bipush 60, 2) := by decide +kernel
theorem dX5_said_9 : decode cX5_said 9 = .ok (.if_icmp .ge 38, 3) := by decide +kernel
theorem dX5_said_12 : decode cX5_said 12 = .ok (.lload_n 2, 1) := by decide +kernel
theorem dX5_said_13 : decode cX5_said 13 = .ok (.aload_n 0, 1) := by decide +kernel
theorem dX5_said_14 : decode cX5_said 14 = .ok (.iload_n 1, 1) := by decide +kernel
theorem dX5_said_15 : decode cX5_said 15 = .ok (.iload 4, 2) := by decide +kernel
theorem dX5_said_17 : decode cX5_said 17 = .ok (.invokevirtual 57, 3) := by decide +kernel
theorem dX5_said_20 : decode cX5_said 20 = .ok (.ifCond .eq 18, 3) := by decide +kernel
theorem dX5_said_23 : decode cX5_said 23 = .ok (.aload_n 0, 1) := by decide +kernel
theorem dX5_said_24 : decode cX5_said 24 = .ok (.iload_n 1, 1) := by decide +kernel
theorem dX5_said_25 : decode cX5_said 25 = .ok (.iload 4, 2) := by decide +kernel
theorem dX5_said_27 : decode cX5_said 27 = .ok (.bipush 16, 2) := by decide +kernel
theorem dX5_said_29 : decode cX5_said 29 = .ok (.invokestatic 37, 3) := by decide +kernel
theorem dX5_said_32 : decode cX5_said 32 = .ok (.invokevirtual 41, 3) := by decide +kernel
theorem dX5_said_35 : decode cX5_said 35 = .ok (.goto 4, 3) := by decide +kernel
theorem dX5_said_38 : decode cX5_said 38 = .ok (.lconst 0, 1) := by decide +kernel
theorem dX5_said_39 : decode cX5_said 39 = .ok (.ladd, 1) := by decide +kernel
theorem dX5_said_40 : decode cX5_said 40 = .ok (.lstore_n 2, 1) := by decide +kernel
theorem dX5_said_41 : decode cX5_said 41 = .ok (.iinc 4 1, 3) := by decide +kernel
theorem dX5_said_44 : decode cX5_said 44 = .ok (.goto (-39), 3) := by decide +kernel
theorem dX5_said_47 : decode cX5_said 47 = .ok (.lload_n 2, 1) := by decide +kernel
theorem dX5_said_48 : decode cX5_said 48 = .ok (.lreturn, 1) := by decide +kernel
theorem dX5_neither_0 : decode cX5_neither 0 = .ok (.lconst 0, 1) := by decide +kernel
theorem dX5_neither_1 : decode cX5_neither 1 = .ok (.lstore_n 2, 1) := by decide +kernel
theorem dX5_neither_2 : decode cX5_neither 2 = .ok (.iconst 0, 1) := by decide +kernel
theorem dX5_neither_3 : decode cX5_neither 3 = .ok (.istore 4, 2) := by decide +kernel
theorem dX5_neither_5 : decode cX5_neither 5 = .ok (.iload 4, 2) := by decide +kernel
theorem dX5_neither_7 : decode cX5_neither 7 = .ok (.bipush 60, 2) := by decide +kernel
theorem dX5_neither_9 : decode cX5_neither 9 = .ok (.if_icmp .ge 27, 3) := by decide +kernel
theorem dX5_neither_12 : decode cX5_neither 12 = .ok (.lload_n 2, 1) := by decide +kernel
theorem dX5_neither_13 : decode cX5_neither 13 = .ok (.aload_n 0, 1) := by decide +kernel
theorem dX5_neither_14 : decode cX5_neither 14 = .ok (.iload_n 1, 1) := by decide +kernel
theorem dX5_neither_15 : decode cX5_neither 15 = .ok (.iload 4, 2) := by decide +kernel
theorem dX5_neither_17 : decode cX5_neither 17 = .ok (.invokevirtual 57, 3) := by decide +kernel
theorem dX5_neither_20 : decode cX5_neither 20 = .ok (.ifCond .eq 7, 3) := by decide +kernel
theorem dX5_neither_23 : decode cX5_neither 23 = .ok (.lconst 1, 1) := by decide +kernel
theorem dX5_neither_24 : decode cX5_neither 24 = .ok (.goto 4, 3) := by decide +kernel
theorem dX5_neither_27 : decode cX5_neither 27 = .ok (.lconst 0, 1) := by decide +kernel
theorem dX5_neither_28 : decode cX5_neither 28 = .ok (.ladd, 1) := by decide +kernel
theorem dX5_neither_29 : decode cX5_neither 29 = .ok (.lstore_n 2, 1) := by decide +kernel
theorem dX5_neither_30 : decode cX5_neither 30 = .ok (.iinc 4 1, 3) := by decide +kernel
theorem dX5_neither_33 : decode cX5_neither 33 = .ok (.goto (-28), 3) := by decide +kernel
theorem dX5_neither_36 : decode cX5_neither 36 = .ok (.lload_n 2, 1) := by decide +kernel
theorem dX5_neither_37 : decode cX5_neither 37 = .ok (.lreturn, 1) := by decide +kernel
theorem dX5_keeps_0 : decode cX5_keeps 0 = .ok (.iconst 0, 1) := by decide +kernel
theorem dX5_keeps_1 : decode cX5_keeps 1 = .ok (.istore_n 2, 1) := by decide +kernel
theorem dX5_keeps_2 : decode cX5_keeps 2 = .ok (.iload_n 2, 1) := by decide +kernel
theorem dX5_keeps_3 : decode cX5_keeps 3 = .ok (.sipush 1393, 3) := by decide +kernel
theorem dX5_keeps_6 : decode cX5_keeps 6 = .ok (.if_icmp .ge 30, 3) := by decide +kernel
theorem dX5_keeps_9 : decode cX5_keeps 9 = .ok (.aload_n 0, 1) := by decide +kernel
theorem dX5_keeps_10 : decode cX5_keeps 10 = .ok (.getfield 15, 3) := by decide +kernel
theorem dX5_keeps_13 : decode cX5_keeps 13 = .ok (.sipush 1393, 3) := by decide +kernel
theorem dX5_keeps_16 : decode cX5_keeps 16 = .ok (.aload_n 0, 1) := by decide +kernel
theorem dX5_keeps_17 : decode cX5_keeps 17 = .ok (.getfield 105, 3) := by decide +kernel
theorem dX5_keeps_20 : decode cX5_keeps 20 = .ok (.imul, 1) := by decide +kernel
theorem dX5_keeps_21 : decode cX5_keeps 21 = .ok (.iload_n 2, 1) := by decide +kernel
theorem dX5_keeps_22 : decode cX5_keeps 22 = .ok (.iadd, 1) := by decide +kernel
theorem dX5_keeps_23 : decode cX5_keeps 23 = .ok (.aload_n 0, 1) := by decide +kernel
theorem dX5_keeps_24 : decode cX5_keeps 24 = .ok (.iload_n 1, 1) := by decide +kernel
theorem dX5_keeps_25 : decode cX5_keeps 25 = .ok (.iload_n 2, 1) := by decide +kernel
theorem dX5_keeps_26 : decode cX5_keeps 26 = .ok (.invokevirtual 41, 3) := by decide +kernel
theorem dX5_keeps_29 : decode cX5_keeps 29 = .ok (.lastore, 1) := by decide +kernel
theorem dX5_keeps_30 : decode cX5_keeps 30 = .ok (.iinc 2 1, 3) := by decide +kernel
theorem dX5_keeps_33 : decode cX5_keeps 33 = .ok (.goto (-31), 3) := by decide +kernel
theorem dX5_keeps_36 : decode cX5_keeps 36 = .ok (.aload_n 0, 1) := by decide +kernel
theorem dX5_keeps_37 : decode cX5_keeps 37 = .ok (.getfield 18, 3) := by decide +kernel
theorem dX5_keeps_40 : decode cX5_keeps 40 = .ok (.aload_n 0, 1) := by decide +kernel
theorem dX5_keeps_41 : decode cX5_keeps 41 = .ok (.getfield 105, 3) := by decide +kernel
theorem dX5_keeps_44 : decode cX5_keeps 44 = .ok (.iload_n 1, 1) := by decide +kernel
theorem dX5_keeps_45 : decode cX5_keeps 45 = .ok (.iastore, 1) := by decide +kernel
theorem dX5_keeps_46 : decode cX5_keeps 46 = .ok (.aload_n 0, 1) := by decide +kernel
theorem dX5_keeps_47 : decode cX5_keeps 47 = .ok (.dup, 1) := by decide +kernel
theorem dX5_keeps_48 : decode cX5_keeps 48 = .ok (.getfield 105, 3) := by decide +kernel
theorem dX5_keeps_51 : decode cX5_keeps 51 = .ok (.iconst 1, 1) := by decide +kernel
theorem dX5_keeps_52 : decode cX5_keeps 52 = .ok (.iadd, 1) := by decide +kernel
theorem dX5_keeps_53 : decode cX5_keeps 53 = .ok (.putfield 105, 3) := by decide +kernel
theorem dX5_keeps_56 : decode cX5_keeps 56 = .ok (.return_, 1) := by decide +kernel
theorem dX5_lacks_0 : decode cX5_lacks 0 = .ok (.lconst 0, 1) := by decide +kernel
theorem dX5_lacks_1 : decode cX5_lacks 1 = .ok (.lstore_n 2, 1) := by decide +kernel
theorem dX5_lacks_2 : decode cX5_lacks 2 = .ok (.iconst 0, 1) := by decide +kernel
theorem dX5_lacks_3 : decode cX5_lacks 3 = .ok (.istore 4, 2) := by decide +kernel
theorem dX5_lacks_5 : decode cX5_lacks 5 = .ok (.iload 4, 2) := by decide +kernel
theorem dX5_lacks_7 : decode cX5_lacks 7 = .ok (.bipush 60, 2) := by decide +kernel
theorem dX5_lacks_9 : decode cX5_lacks 9 = .ok (.if_icmp .ge 186, 3) := by decide +kernel
theorem dX5_lacks_12 : decode cX5_lacks 12 = .ok (.aload_n 0, 1) := by decide +kernel
theorem dX5_lacks_13 : decode cX5_lacks 13 = .ok (.iload_n 1, 1) := by decide +kernel
theorem dX5_lacks_14 : decode cX5_lacks 14 = .ok (.iload 4, 2) := by decide +kernel
theorem dX5_lacks_16 : decode cX5_lacks 16 = .ok (.invokevirtual 51, 3) := by decide +kernel
theorem dX5_lacks_19 : decode cX5_lacks 19 = .ok (.ifCond .eq 170, 3) := by decide +kernel
theorem dX5_lacks_22 : decode cX5_lacks 22 = .ok (.aload_n 0, 1) := by decide +kernel
theorem dX5_lacks_23 : decode cX5_lacks 23 = .ok (.iload_n 1, 1) := by decide +kernel
theorem dX5_lacks_24 : decode cX5_lacks 24 = .ok (.iload 4, 2) := by decide +kernel
theorem dX5_lacks_26 : decode cX5_lacks 26 = .ok (.invokevirtual 54, 3) := by decide +kernel
theorem dX5_lacks_29 : decode cX5_lacks 29 = .ok (.ifCond .eq 6, 3) := by decide +kernel
theorem dX5_lacks_32 : decode cX5_lacks 32 = .ok (.goto 157, 3) := by decide +kernel
theorem dX5_lacks_35 : decode cX5_lacks 35 = .ok (.aload_n 0, 1) := by decide +kernel
theorem dX5_lacks_36 : decode cX5_lacks 36 = .ok (.iload_n 1, 1) := by decide +kernel
theorem dX5_lacks_37 : decode cX5_lacks 37 = .ok (.iconst 1, 1) := by decide +kernel
theorem dX5_lacks_38 : decode cX5_lacks 38 = .ok (.invokevirtual 41, 3) := by decide +kernel
theorem dX5_lacks_41 : decode cX5_lacks 41 = .ok (.aload_n 0, 1) := by decide +kernel
theorem dX5_lacks_42 : decode cX5_lacks 42 = .ok (.iload_n 1, 1) := by decide +kernel
theorem dX5_lacks_43 : decode cX5_lacks 43 = .ok (.iload 4, 2) := by decide +kernel
theorem dX5_lacks_45 : decode cX5_lacks 45 = .ok (.bipush 13, 2) := by decide +kernel
theorem dX5_lacks_47 : decode cX5_lacks 47 = .ok (.invokestatic 37, 3) := by decide +kernel
theorem dX5_lacks_50 : decode cX5_lacks 50 = .ok (.invokevirtual 41, 3) := by decide +kernel
theorem dX5_lacks_53 : decode cX5_lacks 53 = .ok (.lsub, 1) := by decide +kernel
theorem dX5_lacks_54 : decode cX5_lacks 54 = .ok (.lstore 5, 2) := by decide +kernel
theorem dX5_lacks_56 : decode cX5_lacks 56 = .ok (.lload 5, 2) := by decide +kernel
theorem dX5_lacks_58 : decode cX5_lacks 58 = .ok (.lconst 0, 1) := by decide +kernel
theorem dX5_lacks_59 : decode cX5_lacks 59 = .ok (.lcmp, 1) := by decide +kernel
theorem dX5_lacks_60 : decode cX5_lacks 60 = .ok (.ifCond .ne 6, 3) := by decide +kernel
theorem dX5_lacks_63 : decode cX5_lacks 63 = .ok (.goto 126, 3) := by decide +kernel
theorem dX5_lacks_66 : decode cX5_lacks 66 = .ok (.aload_n 0, 1) := by decide +kernel
theorem dX5_lacks_67 : decode cX5_lacks 67 = .ok (.iload_n 1, 1) := by decide +kernel
theorem dX5_lacks_68 : decode cX5_lacks 68 = .ok (.iload 4, 2) := by decide +kernel
theorem dX5_lacks_70 : decode cX5_lacks 70 = .ok (.bipush 12, 2) := by decide +kernel
theorem dX5_lacks_72 : decode cX5_lacks 72 = .ok (.invokestatic 37, 3) := by decide +kernel
theorem dX5_lacks_75 : decode cX5_lacks 75 = .ok (.lconst 0, 1) := by decide +kernel
theorem dX5_lacks_76 : decode cX5_lacks 76 = .ok (.invokevirtual 62, 3) := by decide +kernel
theorem dX5_lacks_79 : decode cX5_lacks 79 = .ok (.aload_n 0, 1) := by decide +kernel
theorem dX5_lacks_80 : decode cX5_lacks 80 = .ok (.iload_n 1, 1) := by decide +kernel
theorem dX5_lacks_81 : decode cX5_lacks 81 = .ok (.iload 4, 2) := by decide +kernel
theorem dX5_lacks_83 : decode cX5_lacks 83 = .ok (.iconst 2, 1) := by decide +kernel
theorem dX5_lacks_84 : decode cX5_lacks 84 = .ok (.invokestatic 37, 3) := by decide +kernel
theorem dX5_lacks_87 : decode cX5_lacks 87 = .ok (.invokevirtual 41, 3) := by decide +kernel
theorem dX5_lacks_90 : decode cX5_lacks 90 = .ok (.l2i, 1) := by decide +kernel
theorem dX5_lacks_91 : decode cX5_lacks 91 = .ok (.istore 7, 2) := by decide +kernel
theorem dX5_lacks_93 : decode cX5_lacks 93 = .ok (.iload 7, 2) := by decide +kernel
theorem dX5_lacks_95 : decode cX5_lacks 95 = .ok (.iconst (-1), 1) := by decide +kernel
theorem dX5_lacks_96 : decode cX5_lacks 96 = .ok (.if_icmp .eq 13, 3) := by decide +kernel
theorem dX5_lacks_99 : decode cX5_lacks 99 = .ok (.aload_n 0, 1) := by decide +kernel
theorem dX5_lacks_100 : decode cX5_lacks 100 = .ok (.iload_n 1, 1) := by decide +kernel
theorem dX5_lacks_101 : decode cX5_lacks 101 = .ok (.iload 7, 2) := by decide +kernel
theorem dX5_lacks_103 : decode cX5_lacks 103 = .ok (.invokevirtual 54, 3) := by decide +kernel
theorem dX5_lacks_106 : decode cX5_lacks 106 = .ok (.ifCond .eq 7, 3) := by decide +kernel
theorem dX5_lacks_109 : decode cX5_lacks 109 = .ok (.lconst 0, 1) := by decide +kernel
theorem dX5_lacks_110 : decode cX5_lacks 110 = .ok (.goto 20, 3) := by decide +kernel
theorem dX5_lacks_113 : decode cX5_lacks 113 = .ok (.lload 5, 2) := by decide +kernel
theorem dX5_lacks_115 : decode cX5_lacks 115 = .ok (.aload_n 0, 1) := by decide +kernel
theorem dX5_lacks_116 : decode cX5_lacks 116 = .ok (.iload_n 1, 1) := by decide +kernel
theorem dX5_lacks_117 : decode cX5_lacks 117 = .ok (.iload 7, 2) := by decide +kernel
theorem dX5_lacks_119 : decode cX5_lacks 119 = .ok (.bipush 7, 2) := by decide +kernel
theorem dX5_lacks_121 : decode cX5_lacks 121 = .ok (.invokestatic 37, 3) := by decide +kernel
theorem dX5_lacks_124 : decode cX5_lacks 124 = .ok (.invokevirtual 41, 3) := by decide +kernel
theorem dX5_lacks_127 : decode cX5_lacks 127 = .ok (.invokestatic 108, 3) := by decide +kernel
theorem dX5_lacks_130 : decode cX5_lacks 130 = .ok (.lstore 8, 2) := by decide +kernel
theorem dX5_lacks_132 : decode cX5_lacks 132 = .ok (.lload 8, 2) := by decide +kernel
theorem dX5_lacks_134 : decode cX5_lacks 134 = .ok (.lconst 0, 1) := by decide +kernel
theorem dX5_lacks_135 : decode cX5_lacks 135 = .ok (.lcmp, 1) := by decide +kernel
theorem dX5_lacks_136 : decode cX5_lacks 136 = .ok (.ifCond .le 18, 3) := by decide +kernel
theorem dX5_lacks_139 : decode cX5_lacks 139 = .ok (.aload_n 0, 1) := by decide +kernel
theorem dX5_lacks_140 : decode cX5_lacks 140 = .ok (.iload_n 1, 1) := by decide +kernel
theorem dX5_lacks_141 : decode cX5_lacks 141 = .ok (.iload 7, 2) := by decide +kernel
theorem dX5_lacks_143 : decode cX5_lacks 143 = .ok (.bipush 7, 2) := by decide +kernel
theorem dX5_lacks_145 : decode cX5_lacks 145 = .ok (.invokestatic 37, 3) := by decide +kernel
theorem dX5_lacks_148 : decode cX5_lacks 148 = .ok (.lload 8, 2) := by decide +kernel
theorem dX5_lacks_150 : decode cX5_lacks 150 = .ok (.lneg, 1) := by decide +kernel
theorem dX5_lacks_151 : decode cX5_lacks 151 = .ok (.invokevirtual 76, 3) := by decide +kernel
theorem dX5_lacks_154 : decode cX5_lacks 154 = .ok (.aload_n 0, 1) := by decide +kernel
theorem dX5_lacks_155 : decode cX5_lacks 155 = .ok (.iload_n 1, 1) := by decide +kernel
theorem dX5_lacks_156 : decode cX5_lacks 156 = .ok (.iload 4, 2) := by decide +kernel
theorem dX5_lacks_158 : decode cX5_lacks 158 = .ok (.bipush 6, 2) := by decide +kernel
theorem dX5_lacks_160 : decode cX5_lacks 160 = .ok (.invokestatic 37, 3) := by decide +kernel
theorem dX5_lacks_163 : decode cX5_lacks 163 = .ok (.lload 8, 2) := by decide +kernel
theorem dX5_lacks_165 : decode cX5_lacks 165 = .ok (.invokevirtual 76, 3) := by decide +kernel
theorem dX5_lacks_168 : decode cX5_lacks 168 = .ok (.aload_n 0, 1) := by decide +kernel
theorem dX5_lacks_169 : decode cX5_lacks 169 = .ok (.iload_n 1, 1) := by decide +kernel
theorem dX5_lacks_170 : decode cX5_lacks 170 = .ok (.iload 4, 2) := by decide +kernel
theorem dX5_lacks_172 : decode cX5_lacks 172 = .ok (.iconst 5, 1) := by decide +kernel
theorem dX5_lacks_173 : decode cX5_lacks 173 = .ok (.invokestatic 37, 3) := by decide +kernel
theorem dX5_lacks_176 : decode cX5_lacks 176 = .ok (.lload 5, 2) := by decide +kernel
theorem dX5_lacks_178 : decode cX5_lacks 178 = .ok (.lload 8, 2) := by decide +kernel
theorem dX5_lacks_180 : decode cX5_lacks 180 = .ok (.lsub, 1) := by decide +kernel
theorem dX5_lacks_181 : decode cX5_lacks 181 = .ok (.invokevirtual 76, 3) := by decide +kernel
theorem dX5_lacks_184 : decode cX5_lacks 184 = .ok (.lload_n 2, 1) := by decide +kernel
theorem dX5_lacks_185 : decode cX5_lacks 185 = .ok (.lload 8, 2) := by decide +kernel
theorem dX5_lacks_187 : decode cX5_lacks 187 = .ok (.ladd, 1) := by decide +kernel
theorem dX5_lacks_188 : decode cX5_lacks 188 = .ok (.lstore_n 2, 1) := by decide +kernel
theorem dX5_lacks_189 : decode cX5_lacks 189 = .ok (.iinc 4 1, 3) := by decide +kernel
theorem dX5_lacks_192 : decode cX5_lacks 192 = .ok (.goto (-187), 3) := by decide +kernel
theorem dX5_lacks_195 : decode cX5_lacks 195 = .ok (.lload_n 2, 1) := by decide +kernel
theorem dX5_lacks_196 : decode cX5_lacks 196 = .ok (.lreturn, 1) := by decide +kernel
theorem dX5_firstAble_0 : decode cX5_firstAble 0 = .ok (.iconst 0, 1) := by decide +kernel
theorem dX5_firstAble_1 : decode cX5_firstAble 1 = .ok (.istore_n 2, 1) := by decide +kernel
theorem dX5_firstAble_2 : decode cX5_firstAble 2 = .ok (.iload_n 2, 1) := by decide +kernel
theorem dX5_firstAble_3 : decode cX5_firstAble 3 = .ok (.bipush 60, 2) := by decide +kernel
theorem dX5_firstAble_5 : decode cX5_firstAble 5 = .ok (.if_icmp .ge 20, 3) := by decide +kernel
theorem dX5_firstAble_8 : decode cX5_firstAble 8 = .ok (.aload_n 0, 1) := by decide +kernel
theorem dX5_firstAble_9 : decode cX5_firstAble 9 = .ok (.iload_n 1, 1) := by decide +kernel
theorem dX5_firstAble_10 : decode cX5_firstAble 10 = .ok (.iload_n 2, 1) := by decide +kernel
theorem dX5_firstAble_11 : decode cX5_firstAble 11 = .ok (.invokevirtual 114, 3) := by decide +kernel
theorem dX5_firstAble_14 : decode cX5_firstAble 14 = .ok (.ifCond .eq 5, 3) := by decide +kernel
theorem dX5_firstAble_17 : decode cX5_firstAble 17 = .ok (.iload_n 2, 1) := by decide +kernel
theorem dX5_firstAble_18 : decode cX5_firstAble 18 = .ok (.ireturn, 1) := by decide +kernel
theorem dX5_firstAble_19 : decode cX5_firstAble 19 = .ok (.iinc 2 1, 3) := by decide +kernel
theorem dX5_firstAble_22 : decode cX5_firstAble 22 = .ok (.goto (-20), 3) := by decide +kernel
theorem dX5_firstAble_25 : decode cX5_firstAble 25 = .ok (.iconst (-1), 1) := by decide +kernel
theorem dX5_firstAble_26 : decode cX5_firstAble 26 = .ok (.ireturn, 1) := by decide +kernel
theorem dX5_byOrder_0 : decode cX5_byOrder 0 = .ok (.iconst 0, 1) := by decide +kernel
theorem dX5_byOrder_1 : decode cX5_byOrder 1 = .ok (.istore_n 2, 1) := by decide +kernel
theorem dX5_byOrder_2 : decode cX5_byOrder 2 = .ok (.iload_n 2, 1) := by decide +kernel
theorem dX5_byOrder_3 : decode cX5_byOrder 3 = .ok (.i2l, 1) := by decide +kernel
theorem dX5_byOrder_4 : decode cX5_byOrder 4 = .ok (.aload_n 0, 1) := by decide +kernel
theorem dX5_byOrder_5 : decode cX5_byOrder 5 = .ok (.iload_n 1, 1) := by decide +kernel
theorem dX5_byOrder_6 : decode cX5_byOrder 6 = .ok (.bipush 12, 2) := by decide +kernel
theorem dX5_byOrder_8 : decode cX5_byOrder 8 = .ok (.invokevirtual 41, 3) := by decide +kernel
theorem dX5_byOrder_11 : decode cX5_byOrder 11 = .ok (.lcmp, 1) := by decide +kernel
theorem dX5_byOrder_12 : decode cX5_byOrder 12 = .ok (.ifCond .ge 40, 3) := by decide +kernel
theorem dX5_byOrder_15 : decode cX5_byOrder 15 = .ok (.aload_n 0, 1) := by decide +kernel
theorem dX5_byOrder_16 : decode cX5_byOrder 16 = .ok (.iload_n 1, 1) := by decide +kernel
theorem dX5_byOrder_17 : decode cX5_byOrder 17 = .ok (.aload_n 0, 1) := by decide +kernel
theorem dX5_byOrder_18 : decode cX5_byOrder 18 = .ok (.iload_n 1, 1) := by decide +kernel
theorem dX5_byOrder_19 : decode cX5_byOrder 19 = .ok (.sipush 1033, 3) := by decide +kernel
theorem dX5_byOrder_22 : decode cX5_byOrder 22 = .ok (.iload_n 2, 1) := by decide +kernel
theorem dX5_byOrder_23 : decode cX5_byOrder 23 = .ok (.iadd, 1) := by decide +kernel
theorem dX5_byOrder_24 : decode cX5_byOrder 24 = .ok (.invokevirtual 41, 3) := by decide +kernel
theorem dX5_byOrder_27 : decode cX5_byOrder 27 = .ok (.l2i, 1) := by decide +kernel
theorem dX5_byOrder_28 : decode cX5_byOrder 28 = .ok (.invokevirtual 114, 3) := by decide +kernel
theorem dX5_byOrder_31 : decode cX5_byOrder 31 = .ok (.ifCond .eq 15, 3) := by decide +kernel
theorem dX5_byOrder_34 : decode cX5_byOrder 34 = .ok (.aload_n 0, 1) := by decide +kernel
theorem dX5_byOrder_35 : decode cX5_byOrder 35 = .ok (.iload_n 1, 1) := by decide +kernel
theorem dX5_byOrder_36 : decode cX5_byOrder 36 = .ok (.sipush 1033, 3) := by decide +kernel
theorem dX5_byOrder_39 : decode cX5_byOrder 39 = .ok (.iload_n 2, 1) := by decide +kernel
theorem dX5_byOrder_40 : decode cX5_byOrder 40 = .ok (.iadd, 1) := by decide +kernel
theorem dX5_byOrder_41 : decode cX5_byOrder 41 = .ok (.invokevirtual 41, 3) := by decide +kernel
theorem dX5_byOrder_44 : decode cX5_byOrder 44 = .ok (.l2i, 1) := by decide +kernel
theorem dX5_byOrder_45 : decode cX5_byOrder 45 = .ok (.ireturn, 1) := by decide +kernel
theorem dX5_byOrder_46 : decode cX5_byOrder 46 = .ok (.iinc 2 1, 3) := by decide +kernel
theorem dX5_byOrder_49 : decode cX5_byOrder 49 = .ok (.goto (-47), 3) := by decide +kernel
theorem dX5_byOrder_52 : decode cX5_byOrder 52 = .ok (.aload_n 0, 1) := by decide +kernel
theorem dX5_byOrder_53 : decode cX5_byOrder 53 = .ok (.iload_n 1, 1) := by decide +kernel
theorem dX5_byOrder_54 : decode cX5_byOrder 54 = .ok (.invokevirtual 117, 3) := by decide +kernel
theorem dX5_byOrder_57 : decode cX5_byOrder 57 = .ok (.ireturn, 1) := by decide +kernel
theorem dX5_byLot_0 : decode cX5_byLot 0 = .ok (.iconst 0, 1) := by decide +kernel
theorem dX5_byLot_1 : decode cX5_byLot 1 = .ok (.istore_n 2, 1) := by decide +kernel
theorem dX5_byLot_2 : decode cX5_byLot 2 = .ok (.iconst 0, 1) := by decide +kernel
theorem dX5_byLot_3 : decode cX5_byLot 3 = .ok (.istore_n 3, 1) := by decide +kernel
theorem dX5_byLot_4 : decode cX5_byLot 4 = .ok (.iload_n 3, 1) := by decide +kernel
theorem dX5_byLot_5 : decode cX5_byLot 5 = .ok (.bipush 60, 2) := by decide +kernel
theorem dX5_byLot_7 : decode cX5_byLot 7 = .ok (.if_icmp .ge 26, 3) := by decide +kernel
theorem dX5_byLot_10 : decode cX5_byLot 10 = .ok (.iload_n 2, 1) := by decide +kernel
theorem dX5_byLot_11 : decode cX5_byLot 11 = .ok (.aload_n 0, 1) := by decide +kernel
theorem dX5_byLot_12 : decode cX5_byLot 12 = .ok (.iload_n 1, 1) := by decide +kernel
theorem dX5_byLot_13 : decode cX5_byLot 13 = .ok (.iload_n 3, 1) := by decide +kernel
theorem dX5_byLot_14 : decode cX5_byLot 14 = .ok (.invokevirtual 114, 3) := by decide +kernel
theorem dX5_byLot_17 : decode cX5_byLot 17 = .ok (.ifCond .eq 7, 3) := by decide +kernel
theorem dX5_byLot_20 : decode cX5_byLot 20 = .ok (.iconst 1, 1) := by decide +kernel
theorem dX5_byLot_21 : decode cX5_byLot 21 = .ok (.goto 4, 3) := by decide +kernel
theorem dX5_byLot_24 : decode cX5_byLot 24 = .ok (.iconst 0, 1) := by decide +kernel
theorem dX5_byLot_25 : decode cX5_byLot 25 = .ok (.iadd, 1) := by decide +kernel
theorem dX5_byLot_26 : decode cX5_byLot 26 = .ok (.istore_n 2, 1) := by decide +kernel
theorem dX5_byLot_27 : decode cX5_byLot 27 = .ok (.iinc 3 1, 3) := by decide +kernel
theorem dX5_byLot_30 : decode cX5_byLot 30 = .ok (.goto (-26), 3) := by decide +kernel
theorem dX5_byLot_33 : decode cX5_byLot 33 = .ok (.iload_n 2, 1) := by decide +kernel
theorem dX5_byLot_34 : decode cX5_byLot 34 = .ok (.ifCond .ne 5, 3) := by decide +kernel
theorem dX5_byLot_37 : decode cX5_byLot 37 = .ok (.iconst (-1), 1) := by decide +kernel
theorem dX5_byLot_38 : decode cX5_byLot 38 = .ok (.ireturn, 1) := by decide +kernel
theorem dX5_byLot_39 : decode cX5_byLot 39 = .ok (.aload_n 0, 1) := by decide +kernel
theorem dX5_byLot_40 : decode cX5_byLot 40 = .ok (.iload_n 1, 1) := by decide +kernel
theorem dX5_byLot_41 : decode cX5_byLot 41 = .ok (.iconst 5, 1) := by decide +kernel
theorem dX5_byLot_42 : decode cX5_byLot 42 = .ok (.invokevirtual 41, 3) := by decide +kernel
theorem dX5_byLot_45 : decode cX5_byLot 45 = .ok (.aload_n 0, 1) := by decide +kernel
theorem dX5_byLot_46 : decode cX5_byLot 46 = .ok (.iload_n 1, 1) := by decide +kernel
theorem dX5_byLot_47 : decode cX5_byLot 47 = .ok (.bipush 10, 2) := by decide +kernel
theorem dX5_byLot_49 : decode cX5_byLot 49 = .ok (.invokevirtual 41, 3) := by decide +kernel
theorem dX5_byLot_52 : decode cX5_byLot 52 = .ok (.lcmp, 1) := by decide +kernel
theorem dX5_byLot_53 : decode cX5_byLot 53 = .ok (.ifCond .ge 22, 3) := by decide +kernel
theorem dX5_byLot_56 : decode cX5_byLot 56 = .ok (.aload_n 0, 1) := by decide +kernel
theorem dX5_byLot_57 : decode cX5_byLot 57 = .ok (.iload_n 1, 1) := by decide +kernel
theorem dX5_byLot_58 : decode cX5_byLot 58 = .ok (.sipush 1093, 3) := by decide +kernel
theorem dX5_byLot_61 : decode cX5_byLot 61 = .ok (.aload_n 0, 1) := by decide +kernel
theorem dX5_byLot_62 : decode cX5_byLot 62 = .ok (.iload_n 1, 1) := by decide +kernel
theorem dX5_byLot_63 : decode cX5_byLot 63 = .ok (.iconst 5, 1) := by decide +kernel
theorem dX5_byLot_64 : decode cX5_byLot 64 = .ok (.invokevirtual 41, 3) := by decide +kernel
theorem dX5_byLot_67 : decode cX5_byLot 67 = .ok (.l2i, 1) := by decide +kernel
theorem dX5_byLot_68 : decode cX5_byLot 68 = .ok (.iadd, 1) := by decide +kernel
theorem dX5_byLot_69 : decode cX5_byLot 69 = .ok (.invokevirtual 41, 3) := by decide +kernel
theorem dX5_byLot_72 : decode cX5_byLot 72 = .ok (.goto 4, 3) := by decide +kernel
theorem dX5_byLot_75 : decode cX5_byLot 75 = .ok (.lconst 0, 1) := by decide +kernel
theorem dX5_byLot_76 : decode cX5_byLot 76 = .ok (.lstore_n 3, 1) := by decide +kernel
theorem dX5_byLot_77 : decode cX5_byLot 77 = .ok (.lload_n 3, 1) := by decide +kernel
theorem dX5_byLot_78 : decode cX5_byLot 78 = .ok (.iload_n 2, 1) := by decide +kernel
theorem dX5_byLot_79 : decode cX5_byLot 79 = .ok (.i2l, 1) := by decide +kernel
theorem dX5_byLot_80 : decode cX5_byLot 80 = .ok (.lrem, 1) := by decide +kernel
theorem dX5_byLot_81 : decode cX5_byLot 81 = .ok (.l2i, 1) := by decide +kernel
theorem dX5_byLot_82 : decode cX5_byLot 82 = .ok (.istore 5, 2) := by decide +kernel
theorem dX5_byLot_84 : decode cX5_byLot 84 = .ok (.iconst 0, 1) := by decide +kernel
theorem dX5_byLot_85 : decode cX5_byLot 85 = .ok (.istore 6, 2) := by decide +kernel
theorem dX5_byLot_87 : decode cX5_byLot 87 = .ok (.aload_n 0, 1) := by decide +kernel
theorem dX5_byLot_88 : decode cX5_byLot 88 = .ok (.iload_n 1, 1) := by decide +kernel
theorem dX5_byLot_89 : decode cX5_byLot 89 = .ok (.iload 6, 2) := by decide +kernel
theorem dX5_byLot_91 : decode cX5_byLot 91 = .ok (.invokevirtual 114, 3) := by decide +kernel
theorem dX5_byLot_94 : decode cX5_byLot 94 = .ok (.ifCond .eq 8, 3) := by decide +kernel
theorem dX5_byLot_97 : decode cX5_byLot 97 = .ok (.iload 5, 2) := by decide +kernel
theorem dX5_byLot_99 : decode cX5_byLot 99 = .ok (.ifCond .le 29, 3) := by decide +kernel
theorem dX5_byLot_102 : decode cX5_byLot 102 = .ok (.iload 5, 2) := by decide +kernel
theorem dX5_byLot_104 : decode cX5_byLot 104 = .ok (.aload_n 0, 1) := by decide +kernel
theorem dX5_byLot_105 : decode cX5_byLot 105 = .ok (.iload_n 1, 1) := by decide +kernel
theorem dX5_byLot_106 : decode cX5_byLot 106 = .ok (.iload 6, 2) := by decide +kernel
theorem dX5_byLot_108 : decode cX5_byLot 108 = .ok (.invokevirtual 114, 3) := by decide +kernel
theorem dX5_byLot_111 : decode cX5_byLot 111 = .ok (.ifCond .eq 7, 3) := by decide +kernel
theorem dX5_byLot_114 : decode cX5_byLot 114 = .ok (.iconst 1, 1) := by decide +kernel
theorem dX5_byLot_115 : decode cX5_byLot 115 = .ok (.goto 4, 3) := by decide +kernel
theorem dX5_byLot_118 : decode cX5_byLot 118 = .ok (.iconst 0, 1) := by decide +kernel
theorem dX5_byLot_119 : decode cX5_byLot 119 = .ok (.isub, 1) := by decide +kernel
theorem dX5_byLot_120 : decode cX5_byLot 120 = .ok (.istore 5, 2) := by decide +kernel
theorem dX5_byLot_122 : decode cX5_byLot 122 = .ok (.iinc 6 1, 3) := by decide +kernel
theorem dX5_byLot_125 : decode cX5_byLot 125 = .ok (.goto (-38), 3) := by decide +kernel
theorem dX5_byLot_128 : decode cX5_byLot 128 = .ok (.iload 6, 2) := by decide +kernel
theorem dX5_byLot_130 : decode cX5_byLot 130 = .ok (.ireturn, 1) := by decide +kernel
theorem dX5_byBid_0 : decode cX5_byBid 0 = .ok (.iconst (-1), 1) := by decide +kernel
theorem dX5_byBid_1 : decode cX5_byBid 1 = .ok (.istore_n 2, 1) := by decide +kernel
theorem dX5_byBid_2 : decode cX5_byBid 2 = .ok (.iconst 0, 1) := by decide +kernel
theorem dX5_byBid_3 : decode cX5_byBid 3 = .ok (.istore_n 3, 1) := by decide +kernel
theorem dX5_byBid_4 : decode cX5_byBid 4 = .ok (.iload_n 3, 1) := by decide +kernel
theorem dX5_byBid_5 : decode cX5_byBid 5 = .ok (.bipush 60, 2) := by decide +kernel
theorem dX5_byBid_7 : decode cX5_byBid 7 = .ok (.if_icmp .ge 51, 3) := by decide +kernel
theorem dX5_byBid_10 : decode cX5_byBid 10 = .ok (.aload_n 0, 1) := by decide +kernel
theorem dX5_byBid_11 : decode cX5_byBid 11 = .ok (.iload_n 1, 1) := by decide +kernel
theorem dX5_byBid_12 : decode cX5_byBid 12 = .ok (.iload_n 3, 1) := by decide +kernel
theorem dX5_byBid_13 : decode cX5_byBid 13 = .ok (.invokevirtual 114, 3) := by decide +kernel
theorem dX5_byBid_16 : decode cX5_byBid 16 = .ok (.ifCond .eq 36, 3) := by decide +kernel
theorem dX5_byBid_19 : decode cX5_byBid 19 = .ok (.iload_n 2, 1) := by decide +kernel
theorem dX5_byBid_20 : decode cX5_byBid 20 = .ok (.iconst (-1), 1) := by decide +kernel
theorem dX5_byBid_21 : decode cX5_byBid 21 = .ok (.if_icmp .eq 29, 3) := by decide +kernel
theorem dX5_byBid_24 : decode cX5_byBid 24 = .ok (.aload_n 0, 1) := by decide +kernel
theorem dX5_byBid_25 : decode cX5_byBid 25 = .ok (.iload_n 1, 1) := by decide +kernel
theorem dX5_byBid_26 : decode cX5_byBid 26 = .ok (.iload_n 3, 1) := by decide +kernel
theorem dX5_byBid_27 : decode cX5_byBid 27 = .ok (.bipush 15, 2) := by decide +kernel
theorem dX5_byBid_29 : decode cX5_byBid 29 = .ok (.invokestatic 37, 3) := by decide +kernel
theorem dX5_byBid_32 : decode cX5_byBid 32 = .ok (.invokevirtual 41, 3) := by decide +kernel
theorem dX5_byBid_35 : decode cX5_byBid 35 = .ok (.aload_n 0, 1) := by decide +kernel
theorem dX5_byBid_36 : decode cX5_byBid 36 = .ok (.iload_n 1, 1) := by decide +kernel
theorem dX5_byBid_37 : decode cX5_byBid 37 = .ok (.iload_n 2, 1) := by decide +kernel
theorem dX5_byBid_38 : decode cX5_byBid 38 = .ok (.bipush 15, 2) := by decide +kernel
theorem dX5_byBid_40 : decode cX5_byBid 40 = .ok (.invokestatic 37, 3) := by decide +kernel
theorem dX5_byBid_43 : decode cX5_byBid 43 = .ok (.invokevirtual 41, 3) := by decide +kernel
theorem dX5_byBid_46 : decode cX5_byBid 46 = .ok (.lcmp, 1) := by decide +kernel
theorem dX5_byBid_47 : decode cX5_byBid 47 = .ok (.ifCond .le 5, 3) := by decide +kernel
theorem dX5_byBid_50 : decode cX5_byBid 50 = .ok (.iload_n 3, 1) := by decide +kernel
theorem dX5_byBid_51 : decode cX5_byBid 51 = .ok (.istore_n 2, 1) := by decide +kernel
theorem dX5_byBid_52 : decode cX5_byBid 52 = .ok (.iinc 3 1, 3) := by decide +kernel
theorem dX5_byBid_55 : decode cX5_byBid 55 = .ok (.goto (-51), 3) := by decide +kernel
theorem dX5_byBid_58 : decode cX5_byBid 58 = .ok (.iload_n 2, 1) := by decide +kernel
theorem dX5_byBid_59 : decode cX5_byBid 59 = .ok (.ireturn, 1) := by decide +kernel
theorem dX5_byNeed_0 : decode cX5_byNeed 0 = .ok (.aload_n 0, 1) := by decide +kernel
theorem dX5_byNeed_1 : decode cX5_byNeed 1 = .ok (.iload_n 1, 1) := by decide +kernel
theorem dX5_byNeed_2 : decode cX5_byNeed 2 = .ok (.bipush 9, 2) := by decide +kernel
theorem dX5_byNeed_4 : decode cX5_byNeed 4 = .ok (.invokevirtual 41, 3) := by decide +kernel
theorem dX5_byNeed_7 : decode cX5_byNeed 7 = .ok (.l2i, 1) := by decide +kernel
theorem dX5_byNeed_8 : decode cX5_byNeed 8 = .ok (.istore_n 2, 1) := by decide +kernel
theorem dX5_byNeed_9 : decode cX5_byNeed 9 = .ok (.iload_n 2, 1) := by decide +kernel
theorem dX5_byNeed_10 : decode cX5_byNeed 10 = .ok (.iconst (-1), 1) := by decide +kernel
theorem dX5_byNeed_11 : decode cX5_byNeed 11 = .ok (.if_icmp .eq 34, 3) := by decide +kernel
theorem dX5_byNeed_14 : decode cX5_byNeed 14 = .ok (.aload_n 0, 1) := by decide +kernel
theorem dX5_byNeed_15 : decode cX5_byNeed 15 = .ok (.iload_n 1, 1) := by decide +kernel
theorem dX5_byNeed_16 : decode cX5_byNeed 16 = .ok (.iload_n 2, 1) := by decide +kernel
theorem dX5_byNeed_17 : decode cX5_byNeed 17 = .ok (.invokevirtual 114, 3) := by decide +kernel
theorem dX5_byNeed_20 : decode cX5_byNeed 20 = .ok (.ifCond .eq 25, 3) := by decide +kernel
theorem dX5_byNeed_23 : decode cX5_byNeed 23 = .ok (.ldc2_w 45, 3) := by decide +kernel
theorem dX5_byNeed_26 : decode cX5_byNeed 26 = .ok (.aload_n 0, 1) := by decide +kernel
theorem dX5_byNeed_27 : decode cX5_byNeed 27 = .ok (.iload_n 1, 1) := by decide +kernel
theorem dX5_byNeed_28 : decode cX5_byNeed 28 = .ok (.invokevirtual 121, 3) := by decide +kernel
theorem dX5_byNeed_31 : decode cX5_byNeed 31 = .ok (.lmul, 1) := by decide +kernel
theorem dX5_byNeed_32 : decode cX5_byNeed 32 = .ok (.aload_n 0, 1) := by decide +kernel
theorem dX5_byNeed_33 : decode cX5_byNeed 33 = .ok (.iload_n 1, 1) := by decide +kernel
theorem dX5_byNeed_34 : decode cX5_byNeed 34 = .ok (.invokevirtual 124, 3) := by decide +kernel
theorem dX5_byNeed_37 : decode cX5_byNeed 37 = .ok (.lcmp, 1) := by decide +kernel
theorem dX5_byNeed_38 : decode cX5_byNeed 38 = .ok (.ifCond .le 7, 3) := by decide +kernel
theorem dX5_byNeed_41 : decode cX5_byNeed 41 = .ok (.iload_n 2, 1) := by decide +kernel
theorem dX5_byNeed_42 : decode cX5_byNeed 42 = .ok (.goto 8, 3) := by decide +kernel
theorem dX5_byNeed_45 : decode cX5_byNeed 45 = .ok (.aload_n 0, 1) := by decide +kernel
theorem dX5_byNeed_46 : decode cX5_byNeed 46 = .ok (.iload_n 1, 1) := by decide +kernel
theorem dX5_byNeed_47 : decode cX5_byNeed 47 = .ok (.invokevirtual 117, 3) := by decide +kernel
theorem dX5_byNeed_50 : decode cX5_byNeed 50 = .ok (.ireturn, 1) := by decide +kernel
theorem dX5_who_0 : decode cX5_who 0 = .ok (.aload_n 0, 1) := by decide +kernel
theorem dX5_who_1 : decode cX5_who 1 = .ok (.iload_n 1, 1) := by decide +kernel
theorem dX5_who_2 : decode cX5_who 2 = .ok (.iconst 0, 1) := by decide +kernel
theorem dX5_who_3 : decode cX5_who 3 = .ok (.invokevirtual 41, 3) := by decide +kernel
theorem dX5_who_6 : decode cX5_who 6 = .ok (.l2i, 1) := by decide +kernel
theorem dX5_who_7 : decode cX5_who 7 = .ok (.tableswitch 43 0 2 #[25, 31, 37], 25) := by decide +kernel
theorem dX5_who_32 : decode cX5_who 32 = .ok (.aload_n 0, 1) := by decide +kernel
theorem dX5_who_33 : decode cX5_who 33 = .ok (.iload_n 1, 1) := by decide +kernel
theorem dX5_who_34 : decode cX5_who 34 = .ok (.invokevirtual 127, 3) := by decide +kernel
theorem dX5_who_37 : decode cX5_who 37 = .ok (.ireturn, 1) := by decide +kernel
theorem dX5_who_38 : decode cX5_who 38 = .ok (.aload_n 0, 1) := by decide +kernel
theorem dX5_who_39 : decode cX5_who 39 = .ok (.iload_n 1, 1) := by decide +kernel
theorem dX5_who_40 : decode cX5_who 40 = .ok (.invokevirtual 130, 3) := by decide +kernel
theorem dX5_who_43 : decode cX5_who 43 = .ok (.ireturn, 1) := by decide +kernel
theorem dX5_who_44 : decode cX5_who 44 = .ok (.aload_n 0, 1) := by decide +kernel
theorem dX5_who_45 : decode cX5_who 45 = .ok (.iload_n 1, 1) := by decide +kernel
theorem dX5_who_46 : decode cX5_who 46 = .ok (.invokevirtual 133, 3) := by decide +kernel
theorem dX5_who_49 : decode cX5_who 49 = .ok (.ireturn, 1) := by decide +kernel
theorem dX5_who_50 : decode cX5_who 50 = .ok (.aload_n 0, 1) := by decide +kernel
theorem dX5_who_51 : decode cX5_who 51 = .ok (.iload_n 1, 1) := by decide +kernel
theorem dX5_who_52 : decode cX5_who 52 = .ok (.invokevirtual 136, 3) := by decide +kernel
theorem dX5_who_55 : decode cX5_who 55 = .ok (.ireturn, 1) := by decide +kernel
theorem dX5_isOther_0 : decode cX5_isOther 0 = .ok (.iload_n 2, 1) := by decide +kernel
theorem dX5_isOther_1 : decode cX5_isOther 1 = .ok (.iload_n 3, 1) := by decide +kernel
theorem dX5_isOther_2 : decode cX5_isOther 2 = .ok (.if_icmp .eq 25, 3) := by decide +kernel
theorem dX5_isOther_5 : decode cX5_isOther 5 = .ok (.aload_n 0, 1) := by decide +kernel
theorem dX5_isOther_6 : decode cX5_isOther 6 = .ok (.iload_n 1, 1) := by decide +kernel
theorem dX5_isOther_7 : decode cX5_isOther 7 = .ok (.iload_n 2, 1) := by decide +kernel
theorem dX5_isOther_8 : decode cX5_isOther 8 = .ok (.invokevirtual 51, 3) := by decide +kernel
theorem dX5_isOther_11 : decode cX5_isOther 11 = .ok (.ifCond .eq 16, 3) := by decide +kernel
theorem dX5_isOther_14 : decode cX5_isOther 14 = .ok (.aload_n 0, 1) := by decide +kernel
theorem dX5_isOther_15 : decode cX5_isOther 15 = .ok (.iload_n 1, 1) := by decide +kernel
theorem dX5_isOther_16 : decode cX5_isOther 16 = .ok (.iload_n 2, 1) := by decide +kernel
theorem dX5_isOther_17 : decode cX5_isOther 17 = .ok (.invokevirtual 54, 3) := by decide +kernel
theorem dX5_isOther_20 : decode cX5_isOther 20 = .ok (.ifCond .ne 7, 3) := by decide +kernel
theorem dX5_isOther_23 : decode cX5_isOther 23 = .ok (.iconst 1, 1) := by decide +kernel
theorem dX5_isOther_24 : decode cX5_isOther 24 = .ok (.goto 4, 3) := by decide +kernel
theorem dX5_isOther_27 : decode cX5_isOther 27 = .ok (.iconst 0, 1) := by decide +kernel
theorem dX5_isOther_28 : decode cX5_isOther 28 = .ok (.ireturn, 1) := by decide +kernel
theorem dX5_shares_0 : decode cX5_shares 0 = .ok (.iconst 0, 1) := by decide +kernel
theorem dX5_shares_1 : decode cX5_shares 1 = .ok (.istore 7, 2) := by decide +kernel
theorem dX5_shares_3 : decode cX5_shares 3 = .ok (.iload 7, 2) := by decide +kernel
theorem dX5_shares_5 : decode cX5_shares 5 = .ok (.bipush 60, 2) := by decide +kernel
theorem dX5_shares_7 : decode cX5_shares 7 = .ok (.if_icmp .ge 36, 3) := by decide +kernel
theorem dX5_shares_10 : decode cX5_shares 10 = .ok (.aload_n 0, 1) := by decide +kernel
theorem dX5_shares_11 : decode cX5_shares 11 = .ok (.iload_n 1, 1) := by decide +kernel
theorem dX5_shares_12 : decode cX5_shares 12 = .ok (.iload 7, 2) := by decide +kernel
theorem dX5_shares_14 : decode cX5_shares 14 = .ok (.iload_n 2, 1) := by decide +kernel
theorem dX5_shares_15 : decode cX5_shares 15 = .ok (.invokevirtual 139, 3) := by decide +kernel
theorem dX5_shares_18 : decode cX5_shares 18 = .ok (.ifCond .eq 19, 3) := by decide +kernel
theorem dX5_shares_21 : decode cX5_shares 21 = .ok (.aload_n 0, 1) := by decide +kernel
theorem dX5_shares_22 : decode cX5_shares 22 = .ok (.iload_n 1, 1) := by decide +kernel
theorem dX5_shares_23 : decode cX5_shares 23 = .ok (.iload 7, 2) := by decide +kernel
theorem dX5_shares_25 : decode cX5_shares 25 = .ok (.bipush 10, 2) := by decide +kernel
theorem dX5_shares_27 : decode cX5_shares 27 = .ok (.invokestatic 37, 3) := by decide +kernel
theorem dX5_shares_30 : decode cX5_shares 30 = .ok (.lload_n 3, 1) := by decide +kernel
theorem dX5_shares_31 : decode cX5_shares 31 = .ok (.lload 5, 2) := by decide +kernel
theorem dX5_shares_33 : decode cX5_shares 33 = .ok (.ldiv, 1) := by decide +kernel
theorem dX5_shares_34 : decode cX5_shares 34 = .ok (.invokevirtual 76, 3) := by decide +kernel
theorem dX5_shares_37 : decode cX5_shares 37 = .ok (.iinc 7 1, 3) := by decide +kernel
theorem dX5_shares_40 : decode cX5_shares 40 = .ok (.goto (-37), 3) := by decide +kernel
theorem dX5_shares_43 : decode cX5_shares 43 = .ok (.lload_n 3, 1) := by decide +kernel
theorem dX5_shares_44 : decode cX5_shares 44 = .ok (.lload 5, 2) := by decide +kernel
theorem dX5_shares_46 : decode cX5_shares 46 = .ok (.lrem, 1) := by decide +kernel
theorem dX5_shares_47 : decode cX5_shares 47 = .ok (.lstore 7, 2) := by decide +kernel
theorem dX5_shares_49 : decode cX5_shares 49 = .ok (.iconst 0, 1) := by decide +kernel
theorem dX5_shares_50 : decode cX5_shares 50 = .ok (.istore 9, 2) := by decide +kernel
theorem dX5_shares_52 : decode cX5_shares 52 = .ok (.iload 9, 2) := by decide +kernel
theorem dX5_shares_54 : decode cX5_shares 54 = .ok (.iconst 2, 1) := by decide +kernel
theorem dX5_shares_55 : decode cX5_shares 55 = .ok (.if_icmp .ge 85, 3) := by decide +kernel
theorem dX5_shares_58 : decode cX5_shares 58 = .ok (.iconst 0, 1) := by decide +kernel
theorem dX5_shares_59 : decode cX5_shares 59 = .ok (.istore 10, 2) := by decide +kernel
theorem dX5_shares_61 : decode cX5_shares 61 = .ok (.iload 10, 2) := by decide +kernel
theorem dX5_shares_63 : decode cX5_shares 63 = .ok (.bipush 60, 2) := by decide +kernel
theorem dX5_shares_65 : decode cX5_shares 65 = .ok (.if_icmp .ge 69, 3) := by decide +kernel
theorem dX5_shares_68 : decode cX5_shares 68 = .ok (.lload 7, 2) := by decide +kernel
theorem dX5_shares_70 : decode cX5_shares 70 = .ok (.lconst 0, 1) := by decide +kernel
theorem dX5_shares_71 : decode cX5_shares 71 = .ok (.lcmp, 1) := by decide +kernel
theorem dX5_shares_72 : decode cX5_shares 72 = .ok (.ifCond .le 62, 3) := by decide +kernel
theorem dX5_shares_75 : decode cX5_shares 75 = .ok (.aload_n 0, 1) := by decide +kernel
theorem dX5_shares_76 : decode cX5_shares 76 = .ok (.iload_n 1, 1) := by decide +kernel
theorem dX5_shares_77 : decode cX5_shares 77 = .ok (.iload 10, 2) := by decide +kernel
theorem dX5_shares_79 : decode cX5_shares 79 = .ok (.iload_n 2, 1) := by decide +kernel
theorem dX5_shares_80 : decode cX5_shares 80 = .ok (.invokevirtual 139, 3) := by decide +kernel
theorem dX5_shares_83 : decode cX5_shares 83 = .ok (.ifCond .eq 45, 3) := by decide +kernel
theorem dX5_shares_86 : decode cX5_shares 86 = .ok (.aload_n 0, 1) := by decide +kernel
theorem dX5_shares_87 : decode cX5_shares 87 = .ok (.iload_n 1, 1) := by decide +kernel
theorem dX5_shares_88 : decode cX5_shares 88 = .ok (.iload 10, 2) := by decide +kernel
theorem dX5_shares_90 : decode cX5_shares 90 = .ok (.invokevirtual 57, 3) := by decide +kernel
theorem dX5_shares_93 : decode cX5_shares 93 = .ok (.iload 9, 2) := by decide +kernel
theorem dX5_shares_95 : decode cX5_shares 95 = .ok (.ifCond .ne 7, 3) := by decide +kernel
theorem dX5_shares_98 : decode cX5_shares 98 = .ok (.iconst 1, 1) := by decide +kernel
theorem dX5_shares_99 : decode cX5_shares 99 = .ok (.goto 4, 3) := by decide +kernel
theorem dX5_shares_102 : decode cX5_shares 102 = .ok (.iconst 0, 1) := by decide +kernel
theorem dX5_shares_103 : decode cX5_shares 103 = .ok (.if_icmp .eq 6, 3) := by decide +kernel
theorem dX5_shares_106 : decode cX5_shares 106 = .ok (.goto 22, 3) := by decide +kernel
theorem dX5_shares_109 : decode cX5_shares 109 = .ok (.aload_n 0, 1) := by decide +kernel
theorem dX5_shares_110 : decode cX5_shares 110 = .ok (.iload_n 1, 1) := by decide +kernel
theorem dX5_shares_111 : decode cX5_shares 111 = .ok (.iload 10, 2) := by decide +kernel
theorem dX5_shares_113 : decode cX5_shares 113 = .ok (.bipush 10, 2) := by decide +kernel
theorem dX5_shares_115 : decode cX5_shares 115 = .ok (.invokestatic 37, 3) := by decide +kernel
theorem dX5_shares_118 : decode cX5_shares 118 = .ok (.lconst 1, 1) := by decide +kernel
theorem dX5_shares_119 : decode cX5_shares 119 = .ok (.invokevirtual 76, 3) := by decide +kernel
theorem dX5_shares_122 : decode cX5_shares 122 = .ok (.lload 7, 2) := by decide +kernel
theorem dX5_shares_124 : decode cX5_shares 124 = .ok (.lconst 1, 1) := by decide +kernel
theorem dX5_shares_125 : decode cX5_shares 125 = .ok (.lsub, 1) := by decide +kernel
theorem dX5_shares_126 : decode cX5_shares 126 = .ok (.lstore 7, 2) := by decide +kernel
theorem dX5_shares_128 : decode cX5_shares 128 = .ok (.iinc 10 1, 3) := by decide +kernel
theorem dX5_shares_131 : decode cX5_shares 131 = .ok (.goto (-70), 3) := by decide +kernel
theorem dX5_shares_134 : decode cX5_shares 134 = .ok (.iinc 9 1, 3) := by decide +kernel
theorem dX5_shares_137 : decode cX5_shares 137 = .ok (.goto (-85), 3) := by decide +kernel
theorem dX5_shares_140 : decode cX5_shares 140 = .ok (.return_, 1) := by decide +kernel
theorem dX5_draws_0 : decode cX5_draws 0 = .ok (.lconst 0, 1) := by decide +kernel
theorem dX5_draws_1 : decode cX5_draws 1 = .ok (.lstore 5, 2) := by decide +kernel
theorem dX5_draws_3 : decode cX5_draws 3 = .ok (.iconst 0, 1) := by decide +kernel
theorem dX5_draws_4 : decode cX5_draws 4 = .ok (.istore 7, 2) := by decide +kernel
theorem dX5_draws_6 : decode cX5_draws 6 = .ok (.iload 7, 2) := by decide +kernel
theorem dX5_draws_8 : decode cX5_draws 8 = .ok (.bipush 60, 2) := by decide +kernel
theorem dX5_draws_10 : decode cX5_draws 10 = .ok (.if_icmp .ge 30, 3) := by decide +kernel
theorem dX5_draws_13 : decode cX5_draws 13 = .ok (.lload 5, 2) := by decide +kernel
theorem dX5_draws_15 : decode cX5_draws 15 = .ok (.aload_n 0, 1) := by decide +kernel
theorem dX5_draws_16 : decode cX5_draws 16 = .ok (.iload_n 1, 1) := by decide +kernel
theorem dX5_draws_17 : decode cX5_draws 17 = .ok (.iload 7, 2) := by decide +kernel
theorem dX5_draws_19 : decode cX5_draws 19 = .ok (.iload_n 2, 1) := by decide +kernel
theorem dX5_draws_20 : decode cX5_draws 20 = .ok (.invokevirtual 139, 3) := by decide +kernel
theorem dX5_draws_23 : decode cX5_draws 23 = .ok (.ifCond .eq 7, 3) := by decide +kernel
theorem dX5_draws_26 : decode cX5_draws 26 = .ok (.lconst 1, 1) := by decide +kernel
theorem dX5_draws_27 : decode cX5_draws 27 = .ok (.goto 4, 3) := by decide +kernel
theorem dX5_draws_30 : decode cX5_draws 30 = .ok (.lconst 0, 1) := by decide +kernel
theorem dX5_draws_31 : decode cX5_draws 31 = .ok (.ladd, 1) := by decide +kernel
theorem dX5_draws_32 : decode cX5_draws 32 = .ok (.lstore 5, 2) := by decide +kernel
theorem dX5_draws_34 : decode cX5_draws 34 = .ok (.iinc 7 1, 3) := by decide +kernel
theorem dX5_draws_37 : decode cX5_draws 37 = .ok (.goto (-31), 3) := by decide +kernel
theorem dX5_draws_40 : decode cX5_draws 40 = .ok (.aload_n 0, 1) := by decide +kernel
theorem dX5_draws_41 : decode cX5_draws 41 = .ok (.iload_n 1, 1) := by decide +kernel
theorem dX5_draws_42 : decode cX5_draws 42 = .ok (.iconst 0, 1) := by decide +kernel
theorem dX5_draws_43 : decode cX5_draws 43 = .ok (.invokevirtual 41, 3) := by decide +kernel
theorem dX5_draws_46 : decode cX5_draws 46 = .ok (.ldc2_w 45, 3) := by decide +kernel
theorem dX5_draws_49 : decode cX5_draws 49 = .ok (.lcmp, 1) := by decide +kernel
theorem dX5_draws_50 : decode cX5_draws 50 = .ok (.ifCond .ne 10, 3) := by decide +kernel
theorem dX5_draws_53 : decode cX5_draws 53 = .ok (.lload 5, 2) := by decide +kernel
theorem dX5_draws_55 : decode cX5_draws 55 = .ok (.lconst 0, 1) := by decide +kernel
theorem dX5_draws_56 : decode cX5_draws 56 = .ok (.lcmp, 1) := by decide +kernel
theorem dX5_draws_57 : decode cX5_draws 57 = .ok (.ifCond .ne 7, 3) := by decide +kernel
theorem dX5_draws_60 : decode cX5_draws 60 = .ok (.lconst 0, 1) := by decide +kernel
theorem dX5_draws_61 : decode cX5_draws 61 = .ok (.goto 18, 3) := by decide +kernel
theorem dX5_draws_64 : decode cX5_draws 64 = .ok (.lload_n 3, 1) := by decide +kernel
theorem dX5_draws_65 : decode cX5_draws 65 = .ok (.aload_n 0, 1) := by decide +kernel
theorem dX5_draws_66 : decode cX5_draws 66 = .ok (.iload_n 1, 1) := by decide +kernel
theorem dX5_draws_67 : decode cX5_draws 67 = .ok (.iload_n 2, 1) := by decide +kernel
theorem dX5_draws_68 : decode cX5_draws 68 = .ok (.bipush 15, 2) := by decide +kernel
theorem dX5_draws_70 : decode cX5_draws 70 = .ok (.invokestatic 37, 3) := by decide +kernel
theorem dX5_draws_73 : decode cX5_draws 73 = .ok (.invokevirtual 41, 3) := by decide +kernel
theorem dX5_draws_76 : decode cX5_draws 76 = .ok (.invokestatic 108, 3) := by decide +kernel
theorem dX5_draws_79 : decode cX5_draws 79 = .ok (.lstore 7, 2) := by decide +kernel
theorem dX5_draws_81 : decode cX5_draws 81 = .ok (.lload 7, 2) := by decide +kernel
theorem dX5_draws_83 : decode cX5_draws 83 = .ok (.lconst 0, 1) := by decide +kernel
theorem dX5_draws_84 : decode cX5_draws 84 = .ok (.lcmp, 1) := by decide +kernel
theorem dX5_draws_85 : decode cX5_draws 85 = .ok (.ifCond .le 13, 3) := by decide +kernel
theorem dX5_draws_88 : decode cX5_draws 88 = .ok (.aload_n 0, 1) := by decide +kernel
theorem dX5_draws_89 : decode cX5_draws 89 = .ok (.iload_n 1, 1) := by decide +kernel
theorem dX5_draws_90 : decode cX5_draws 90 = .ok (.iload_n 2, 1) := by decide +kernel
theorem dX5_draws_91 : decode cX5_draws 91 = .ok (.lload 7, 2) := by decide +kernel
theorem dX5_draws_93 : decode cX5_draws 93 = .ok (.lload 5, 2) := by decide +kernel
theorem dX5_draws_95 : decode cX5_draws 95 = .ok (.invokevirtual 143, 3) := by decide +kernel
theorem dX5_draws_98 : decode cX5_draws 98 = .ok (.aload_n 0, 1) := by decide +kernel
theorem dX5_draws_99 : decode cX5_draws 99 = .ok (.iload_n 1, 1) := by decide +kernel
theorem dX5_draws_100 : decode cX5_draws 100 = .ok (.iload_n 2, 1) := by decide +kernel
theorem dX5_draws_101 : decode cX5_draws 101 = .ok (.bipush 6, 2) := by decide +kernel
theorem dX5_draws_103 : decode cX5_draws 103 = .ok (.invokestatic 37, 3) := by decide +kernel
theorem dX5_draws_106 : decode cX5_draws 106 = .ok (.invokevirtual 41, 3) := by decide +kernel
theorem dX5_draws_109 : decode cX5_draws 109 = .ok (.lload_n 3, 1) := by decide +kernel
theorem dX5_draws_110 : decode cX5_draws 110 = .ok (.lload 7, 2) := by decide +kernel
theorem dX5_draws_112 : decode cX5_draws 112 = .ok (.lsub, 1) := by decide +kernel
theorem dX5_draws_113 : decode cX5_draws 113 = .ok (.invokestatic 108, 3) := by decide +kernel
theorem dX5_draws_116 : decode cX5_draws 116 = .ok (.lstore 9, 2) := by decide +kernel
theorem dX5_draws_118 : decode cX5_draws 118 = .ok (.lload 9, 2) := by decide +kernel
theorem dX5_draws_120 : decode cX5_draws 120 = .ok (.lconst 0, 1) := by decide +kernel
theorem dX5_draws_121 : decode cX5_draws 121 = .ok (.lcmp, 1) := by decide +kernel
theorem dX5_draws_122 : decode cX5_draws 122 = .ok (.ifCond .le 26, 3) := by decide +kernel
theorem dX5_draws_125 : decode cX5_draws 125 = .ok (.aload_n 0, 1) := by decide +kernel
theorem dX5_draws_126 : decode cX5_draws 126 = .ok (.iload_n 1, 1) := by decide +kernel
theorem dX5_draws_127 : decode cX5_draws 127 = .ok (.aload_n 0, 1) := by decide +kernel
theorem dX5_draws_128 : decode cX5_draws 128 = .ok (.iload_n 1, 1) := by decide +kernel
theorem dX5_draws_129 : decode cX5_draws 129 = .ok (.iload_n 2, 1) := by decide +kernel
theorem dX5_draws_130 : decode cX5_draws 130 = .ok (.iconst 2, 1) := by decide +kernel
theorem dX5_draws_131 : decode cX5_draws 131 = .ok (.invokestatic 37, 3) := by decide +kernel
theorem dX5_draws_134 : decode cX5_draws 134 = .ok (.invokevirtual 41, 3) := by decide +kernel
theorem dX5_draws_137 : decode cX5_draws 137 = .ok (.l2i, 1) := by decide +kernel
theorem dX5_draws_138 : decode cX5_draws 138 = .ok (.bipush 7, 2) := by decide +kernel
theorem dX5_draws_140 : decode cX5_draws 140 = .ok (.invokestatic 37, 3) := by decide +kernel
theorem dX5_draws_143 : decode cX5_draws 143 = .ok (.lload 9, 2) := by decide +kernel
theorem dX5_draws_145 : decode cX5_draws 145 = .ok (.invokevirtual 76, 3) := by decide +kernel
theorem dX5_draws_148 : decode cX5_draws 148 = .ok (.aload_n 0, 1) := by decide +kernel
theorem dX5_draws_149 : decode cX5_draws 149 = .ok (.iload_n 1, 1) := by decide +kernel
theorem dX5_draws_150 : decode cX5_draws 150 = .ok (.iload_n 2, 1) := by decide +kernel
theorem dX5_draws_151 : decode cX5_draws 151 = .ok (.bipush 6, 2) := by decide +kernel
theorem dX5_draws_153 : decode cX5_draws 153 = .ok (.invokestatic 37, 3) := by decide +kernel
theorem dX5_draws_156 : decode cX5_draws 156 = .ok (.lload 9, 2) := by decide +kernel
theorem dX5_draws_158 : decode cX5_draws 158 = .ok (.lneg, 1) := by decide +kernel
theorem dX5_draws_159 : decode cX5_draws 159 = .ok (.invokevirtual 76, 3) := by decide +kernel
theorem dX5_draws_162 : decode cX5_draws 162 = .ok (.aload_n 0, 1) := by decide +kernel
theorem dX5_draws_163 : decode cX5_draws 163 = .ok (.iload_n 1, 1) := by decide +kernel
theorem dX5_draws_164 : decode cX5_draws 164 = .ok (.iload_n 2, 1) := by decide +kernel
theorem dX5_draws_165 : decode cX5_draws 165 = .ok (.bipush 9, 2) := by decide +kernel
theorem dX5_draws_167 : decode cX5_draws 167 = .ok (.invokestatic 37, 3) := by decide +kernel
theorem dX5_draws_170 : decode cX5_draws 170 = .ok (.lload_n 3, 1) := by decide +kernel
theorem dX5_draws_171 : decode cX5_draws 171 = .ok (.lload 7, 2) := by decide +kernel
theorem dX5_draws_173 : decode cX5_draws 173 = .ok (.lsub, 1) := by decide +kernel
theorem dX5_draws_174 : decode cX5_draws 174 = .ok (.lload 9, 2) := by decide +kernel
theorem dX5_draws_176 : decode cX5_draws 176 = .ok (.lsub, 1) := by decide +kernel
theorem dX5_draws_177 : decode cX5_draws 177 = .ok (.invokevirtual 76, 3) := by decide +kernel
theorem dX5_draws_180 : decode cX5_draws 180 = .ok (.aload_n 0, 1) := by decide +kernel
theorem dX5_draws_181 : decode cX5_draws 181 = .ok (.iload_n 1, 1) := by decide +kernel
theorem dX5_draws_182 : decode cX5_draws 182 = .ok (.iload_n 2, 1) := by decide +kernel
theorem dX5_draws_183 : decode cX5_draws 183 = .ok (.iconst 3, 1) := by decide +kernel
theorem dX5_draws_184 : decode cX5_draws 184 = .ok (.invokestatic 37, 3) := by decide +kernel
theorem dX5_draws_187 : decode cX5_draws 187 = .ok (.lconst 1, 1) := by decide +kernel
theorem dX5_draws_188 : decode cX5_draws 188 = .ok (.invokevirtual 62, 3) := by decide +kernel
theorem dX5_draws_191 : decode cX5_draws 191 = .ok (.lload 7, 2) := by decide +kernel
theorem dX5_draws_193 : decode cX5_draws 193 = .ok (.lreturn, 1) := by decide +kernel
theorem dX5_draw_0 : decode cX5_draw 0 = .ok (.aload_n 0, 1) := by decide +kernel
theorem dX5_draw_1 : decode cX5_draw 1 = .ok (.iload_n 1, 1) := by decide +kernel
theorem dX5_draw_2 : decode cX5_draw 2 = .ok (.invokevirtual 68, 3) := by decide +kernel
theorem dX5_draw_5 : decode cX5_draw 5 = .ok (.ifCond .ne 5, 3) := by decide +kernel
theorem dX5_draw_8 : decode cX5_draw 8 = .ok (.iconst 1, 1) := by decide +kernel
theorem dX5_draw_9 : decode cX5_draw 9 = .ok (.ireturn, 1) := by decide +kernel
theorem dX5_draw_10 : decode cX5_draw 10 = .ok (.aload_n 0, 1) := by decide +kernel
theorem dX5_draw_11 : decode cX5_draw 11 = .ok (.iload_n 1, 1) := by decide +kernel
theorem dX5_draw_12 : decode cX5_draw 12 = .ok (.iconst 4, 1) := by decide +kernel
theorem dX5_draw_13 : decode cX5_draw 13 = .ok (.invokevirtual 41, 3) := by decide +kernel
theorem dX5_draw_16 : decode cX5_draw 16 = .ok (.lconst 1, 1) := by decide +kernel
theorem dX5_draw_17 : decode cX5_draw 17 = .ok (.lcmp, 1) := by decide +kernel
theorem dX5_draw_18 : decode cX5_draw 18 = .ok (.ifCond .eq 5, 3) := by decide +kernel
theorem dX5_draw_21 : decode cX5_draw 21 = .ok (.iconst 2, 1) := by decide +kernel
theorem dX5_draw_22 : decode cX5_draw 22 = .ok (.ireturn, 1) := by decide +kernel
theorem dX5_draw_23 : decode cX5_draw 23 = .ok (.aload_n 0, 1) := by decide +kernel
theorem dX5_draw_24 : decode cX5_draw 24 = .ok (.iload_n 1, 1) := by decide +kernel
theorem dX5_draw_25 : decode cX5_draw 25 = .ok (.iconst 5, 1) := by decide +kernel
theorem dX5_draw_26 : decode cX5_draw 26 = .ok (.invokevirtual 41, 3) := by decide +kernel
theorem dX5_draw_29 : decode cX5_draw 29 = .ok (.aload_n 0, 1) := by decide +kernel
theorem dX5_draw_30 : decode cX5_draw 30 = .ok (.iload_n 1, 1) := by decide +kernel
theorem dX5_draw_31 : decode cX5_draw 31 = .ok (.bipush 6, 2) := by decide +kernel
theorem dX5_draw_33 : decode cX5_draw 33 = .ok (.invokevirtual 41, 3) := by decide +kernel
theorem dX5_draw_36 : decode cX5_draw 36 = .ok (.lcmp, 1) := by decide +kernel
theorem dX5_draw_37 : decode cX5_draw 37 = .ok (.ifCond .ne 6, 3) := by decide +kernel
theorem dX5_draw_40 : decode cX5_draw 40 = .ok (.bipush 8, 2) := by decide +kernel
theorem dX5_draw_42 : decode cX5_draw 42 = .ok (.ireturn, 1) := by decide +kernel
theorem dX5_draw_43 : decode cX5_draw 43 = .ok (.iload_n 1, 1) := by decide +kernel
theorem dX5_draw_44 : decode cX5_draw 44 = .ok (.istore_n 2, 1) := by decide +kernel
theorem dX5_draw_45 : decode cX5_draw 45 = .ok (.aload_n 0, 1) := by decide +kernel
theorem dX5_draw_46 : decode cX5_draw 46 = .ok (.iload_n 2, 1) := by decide +kernel
theorem dX5_draw_47 : decode cX5_draw 47 = .ok (.invokevirtual 147, 3) := by decide +kernel
theorem dX5_draw_50 : decode cX5_draw 50 = .ok (.aload_n 0, 1) := by decide +kernel
theorem dX5_draw_51 : decode cX5_draw 51 = .ok (.iload_n 2, 1) := by decide +kernel
theorem dX5_draw_52 : decode cX5_draw 52 = .ok (.invokevirtual 150, 3) := by decide +kernel
theorem dX5_draw_55 : decode cX5_draw 55 = .ok (.lstore_n 3, 1) := by decide +kernel
theorem dX5_draw_56 : decode cX5_draw 56 = .ok (.iconst 0, 1) := by decide +kernel
theorem dX5_draw_57 : decode cX5_draw 57 = .ok (.istore 5, 2) := by decide +kernel
theorem dX5_draw_59 : decode cX5_draw 59 = .ok (.iload 5, 2) := by decide +kernel
theorem dX5_draw_61 : decode cX5_draw 61 = .ok (.bipush 60, 2) := by decide +kernel
theorem dX5_draw_63 : decode cX5_draw 63 = .ok (.if_icmp .ge 24, 3) := by decide +kernel
theorem dX5_draw_66 : decode cX5_draw 66 = .ok (.lload_n 3, 1) := by decide +kernel
theorem dX5_draw_67 : decode cX5_draw 67 = .ok (.aload_n 0, 1) := by decide +kernel
theorem dX5_draw_68 : decode cX5_draw 68 = .ok (.iload_n 2, 1) := by decide +kernel
theorem dX5_draw_69 : decode cX5_draw 69 = .ok (.iload 5, 2) := by decide +kernel
theorem dX5_draw_71 : decode cX5_draw 71 = .ok (.bipush 13, 2) := by decide +kernel
theorem dX5_draw_73 : decode cX5_draw 73 = .ok (.invokestatic 37, 3) := by decide +kernel
theorem dX5_draw_76 : decode cX5_draw 76 = .ok (.invokevirtual 41, 3) := by decide +kernel
theorem dX5_draw_79 : decode cX5_draw 79 = .ok (.ladd, 1) := by decide +kernel
theorem dX5_draw_80 : decode cX5_draw 80 = .ok (.lstore_n 3, 1) := by decide +kernel
theorem dX5_draw_81 : decode cX5_draw 81 = .ok (.iinc 5 1, 3) := by decide +kernel
theorem dX5_draw_84 : decode cX5_draw 84 = .ok (.goto (-25), 3) := by decide +kernel
theorem dX5_draw_87 : decode cX5_draw 87 = .ok (.aload_n 0, 1) := by decide +kernel
theorem dX5_draw_88 : decode cX5_draw 88 = .ok (.iload_n 2, 1) := by decide +kernel
theorem dX5_draw_89 : decode cX5_draw 89 = .ok (.iconst 3, 1) := by decide +kernel
theorem dX5_draw_90 : decode cX5_draw 90 = .ok (.invokevirtual 41, 3) := by decide +kernel
theorem dX5_draw_93 : decode cX5_draw 93 = .ok (.aload_n 0, 1) := by decide +kernel
theorem dX5_draw_94 : decode cX5_draw 94 = .ok (.iload_n 2, 1) := by decide +kernel
theorem dX5_draw_95 : decode cX5_draw 95 = .ok (.invokevirtual 98, 3) := by decide +kernel
theorem dX5_draw_98 : decode cX5_draw 98 = .ok (.lload_n 3, 1) := by decide +kernel
theorem dX5_draw_99 : decode cX5_draw 99 = .ok (.lsub, 1) := by decide +kernel
theorem dX5_draw_100 : decode cX5_draw 100 = .ok (.invokestatic 108, 3) := by decide +kernel
theorem dX5_draw_103 : decode cX5_draw 103 = .ok (.lstore 5, 2) := by decide +kernel
theorem dX5_draw_105 : decode cX5_draw 105 = .ok (.aload_n 0, 1) := by decide +kernel
theorem dX5_draw_106 : decode cX5_draw 106 = .ok (.iload_n 2, 1) := by decide +kernel
theorem dX5_draw_107 : decode cX5_draw 107 = .ok (.iconst 3, 1) := by decide +kernel
theorem dX5_draw_108 : decode cX5_draw 108 = .ok (.lload 5, 2) := by decide +kernel
theorem dX5_draw_110 : decode cX5_draw 110 = .ok (.lneg, 1) := by decide +kernel
theorem dX5_draw_111 : decode cX5_draw 111 = .ok (.invokevirtual 76, 3) := by decide +kernel
theorem dX5_draw_114 : decode cX5_draw 114 = .ok (.aload_n 0, 1) := by decide +kernel
theorem dX5_draw_115 : decode cX5_draw 115 = .ok (.iload_n 2, 1) := by decide +kernel
theorem dX5_draw_116 : decode cX5_draw 116 = .ok (.invokevirtual 153, 3) := by decide +kernel
theorem dX5_draw_119 : decode cX5_draw 119 = .ok (.istore 7, 2) := by decide +kernel
theorem dX5_draw_121 : decode cX5_draw 121 = .ok (.lconst 0, 1) := by decide +kernel
theorem dX5_draw_122 : decode cX5_draw 122 = .ok (.lstore 8, 2) := by decide +kernel
theorem dX5_draw_124 : decode cX5_draw 124 = .ok (.iload 7, 2) := by decide +kernel
theorem dX5_draw_126 : decode cX5_draw 126 = .ok (.iconst (-1), 1) := by decide +kernel
theorem dX5_draw_127 : decode cX5_draw 127 = .ok (.if_icmp .ne 16, 3) := by decide +kernel
theorem dX5_draw_130 : decode cX5_draw 130 = .ok (.aload_n 0, 1) := by decide +kernel
theorem dX5_draw_131 : decode cX5_draw 131 = .ok (.iload_n 2, 1) := by decide +kernel
theorem dX5_draw_132 : decode cX5_draw 132 = .ok (.iconst 3, 1) := by decide +kernel
theorem dX5_draw_133 : decode cX5_draw 133 = .ok (.lload_n 3, 1) := by decide +kernel
theorem dX5_draw_134 : decode cX5_draw 134 = .ok (.lload 5, 2) := by decide +kernel
theorem dX5_draw_136 : decode cX5_draw 136 = .ok (.ladd, 1) := by decide +kernel
theorem dX5_draw_137 : decode cX5_draw 137 = .ok (.invokevirtual 76, 3) := by decide +kernel
theorem dX5_draw_140 : decode cX5_draw 140 = .ok (.goto 16, 3) := by decide +kernel
theorem dX5_draw_143 : decode cX5_draw 143 = .ok (.aload_n 0, 1) := by decide +kernel
theorem dX5_draw_144 : decode cX5_draw 144 = .ok (.iload_n 2, 1) := by decide +kernel
theorem dX5_draw_145 : decode cX5_draw 145 = .ok (.iload 7, 2) := by decide +kernel
theorem dX5_draw_147 : decode cX5_draw 147 = .ok (.lload_n 3, 1) := by decide +kernel
theorem dX5_draw_148 : decode cX5_draw 148 = .ok (.lload 5, 2) := by decide +kernel
theorem dX5_draw_150 : decode cX5_draw 150 = .ok (.ladd, 1) := by decide +kernel
theorem dX5_draw_151 : decode cX5_draw 151 = .ok (.invokevirtual 156, 3) := by decide +kernel
theorem dX5_draw_154 : decode cX5_draw 154 = .ok (.lstore 8, 2) := by decide +kernel
theorem dX5_draw_156 : decode cX5_draw 156 = .ok (.sipush 1153, 3) := by decide +kernel
theorem dX5_draw_159 : decode cX5_draw 159 = .ok (.iconst 4, 1) := by decide +kernel
theorem dX5_draw_160 : decode cX5_draw 160 = .ok (.aload_n 0, 1) := by decide +kernel
theorem dX5_draw_161 : decode cX5_draw 161 = .ok (.iload_n 2, 1) := by decide +kernel
theorem dX5_draw_162 : decode cX5_draw 162 = .ok (.iconst 5, 1) := by decide +kernel
theorem dX5_draw_163 : decode cX5_draw 163 = .ok (.invokevirtual 41, 3) := by decide +kernel
theorem dX5_draw_166 : decode cX5_draw 166 = .ok (.l2i, 1) := by decide +kernel
theorem dX5_draw_167 : decode cX5_draw 167 = .ok (.imul, 1) := by decide +kernel
theorem dX5_draw_168 : decode cX5_draw 168 = .ok (.iadd, 1) := by decide +kernel
theorem dX5_draw_169 : decode cX5_draw 169 = .ok (.istore 10, 2) := by decide +kernel
theorem dX5_draw_171 : decode cX5_draw 171 = .ok (.aload_n 0, 1) := by decide +kernel
theorem dX5_draw_172 : decode cX5_draw 172 = .ok (.iload_n 2, 1) := by decide +kernel
theorem dX5_draw_173 : decode cX5_draw 173 = .ok (.iload 10, 2) := by decide +kernel
theorem dX5_draw_175 : decode cX5_draw 175 = .ok (.iload 7, 2) := by decide +kernel
theorem dX5_draw_177 : decode cX5_draw 177 = .ok (.i2l, 1) := by decide +kernel
theorem dX5_draw_178 : decode cX5_draw 178 = .ok (.invokevirtual 62, 3) := by decide +kernel
theorem dX5_draw_181 : decode cX5_draw 181 = .ok (.aload_n 0, 1) := by decide +kernel
theorem dX5_draw_182 : decode cX5_draw 182 = .ok (.iload_n 2, 1) := by decide +kernel
theorem dX5_draw_183 : decode cX5_draw 183 = .ok (.iload 10, 2) := by decide +kernel
theorem dX5_draw_185 : decode cX5_draw 185 = .ok (.iconst 1, 1) := by decide +kernel
theorem dX5_draw_186 : decode cX5_draw 186 = .ok (.iadd, 1) := by decide +kernel
theorem dX5_draw_187 : decode cX5_draw 187 = .ok (.lload_n 3, 1) := by decide +kernel
theorem dX5_draw_188 : decode cX5_draw 188 = .ok (.lload 5, 2) := by decide +kernel
theorem dX5_draw_190 : decode cX5_draw 190 = .ok (.ladd, 1) := by decide +kernel
theorem dX5_draw_191 : decode cX5_draw 191 = .ok (.invokevirtual 62, 3) := by decide +kernel
theorem dX5_draw_194 : decode cX5_draw 194 = .ok (.aload_n 0, 1) := by decide +kernel
theorem dX5_draw_195 : decode cX5_draw 195 = .ok (.iload_n 2, 1) := by decide +kernel
theorem dX5_draw_196 : decode cX5_draw 196 = .ok (.iload 10, 2) := by decide +kernel
theorem dX5_draw_198 : decode cX5_draw 198 = .ok (.iconst 2, 1) := by decide +kernel
theorem dX5_draw_199 : decode cX5_draw 199 = .ok (.iadd, 1) := by decide +kernel
theorem dX5_draw_200 : decode cX5_draw 200 = .ok (.lload 8, 2) := by decide +kernel
theorem dX5_draw_202 : decode cX5_draw 202 = .ok (.invokevirtual 62, 3) := by decide +kernel
theorem dX5_draw_205 : decode cX5_draw 205 = .ok (.aload_n 0, 1) := by decide +kernel
theorem dX5_draw_206 : decode cX5_draw 206 = .ok (.iload_n 2, 1) := by decide +kernel
theorem dX5_draw_207 : decode cX5_draw 207 = .ok (.iload 10, 2) := by decide +kernel
theorem dX5_draw_209 : decode cX5_draw 209 = .ok (.iconst 3, 1) := by decide +kernel
theorem dX5_draw_210 : decode cX5_draw 210 = .ok (.iadd, 1) := by decide +kernel
theorem dX5_draw_211 : decode cX5_draw 211 = .ok (.lload 5, 2) := by decide +kernel
theorem dX5_draw_213 : decode cX5_draw 213 = .ok (.invokevirtual 62, 3) := by decide +kernel
theorem dX5_draw_216 : decode cX5_draw 216 = .ok (.iconst 0, 1) := by decide +kernel
theorem dX5_draw_217 : decode cX5_draw 217 = .ok (.istore 11, 2) := by decide +kernel
theorem dX5_draw_219 : decode cX5_draw 219 = .ok (.iload 11, 2) := by decide +kernel
theorem dX5_draw_221 : decode cX5_draw 221 = .ok (.bipush 60, 2) := by decide +kernel
theorem dX5_draw_223 : decode cX5_draw 223 = .ok (.if_icmp .ge 48, 3) := by decide +kernel
theorem dX5_draw_226 : decode cX5_draw 226 = .ok (.aload_n 0, 1) := by decide +kernel
theorem dX5_draw_227 : decode cX5_draw 227 = .ok (.iload_n 2, 1) := by decide +kernel
theorem dX5_draw_228 : decode cX5_draw 228 = .ok (.iload 11, 2) := by decide +kernel
theorem dX5_draw_230 : decode cX5_draw 230 = .ok (.bipush 13, 2) := by decide +kernel
theorem dX5_draw_232 : decode cX5_draw 232 = .ok (.invokestatic 37, 3) := by decide +kernel
theorem dX5_draw_235 : decode cX5_draw 235 = .ok (.lconst 0, 1) := by decide +kernel
theorem dX5_draw_236 : decode cX5_draw 236 = .ok (.invokevirtual 62, 3) := by decide +kernel
theorem dX5_draw_239 : decode cX5_draw 239 = .ok (.aload_n 0, 1) := by decide +kernel
theorem dX5_draw_240 : decode cX5_draw 240 = .ok (.iload_n 2, 1) := by decide +kernel
theorem dX5_draw_241 : decode cX5_draw 241 = .ok (.iload 11, 2) := by decide +kernel
theorem dX5_draw_243 : decode cX5_draw 243 = .ok (.bipush 14, 2) := by decide +kernel
theorem dX5_draw_245 : decode cX5_draw 245 = .ok (.invokestatic 37, 3) := by decide +kernel
theorem dX5_draw_248 : decode cX5_draw 248 = .ok (.lconst 0, 1) := by decide +kernel
theorem dX5_draw_249 : decode cX5_draw 249 = .ok (.invokevirtual 62, 3) := by decide +kernel
theorem dX5_draw_252 : decode cX5_draw 252 = .ok (.aload_n 0, 1) := by decide +kernel
theorem dX5_draw_253 : decode cX5_draw 253 = .ok (.iload_n 2, 1) := by decide +kernel
theorem dX5_draw_254 : decode cX5_draw 254 = .ok (.iload 11, 2) := by decide +kernel
theorem dX5_draw_256 : decode cX5_draw 256 = .ok (.bipush 15, 2) := by decide +kernel
theorem dX5_draw_258 : decode cX5_draw 258 = .ok (.invokestatic 37, 3) := by decide +kernel
theorem dX5_draw_261 : decode cX5_draw 261 = .ok (.lconst 0, 1) := by decide +kernel
theorem dX5_draw_262 : decode cX5_draw 262 = .ok (.invokevirtual 62, 3) := by decide +kernel
theorem dX5_draw_265 : decode cX5_draw 265 = .ok (.iinc 11 1, 3) := by decide +kernel
theorem dX5_draw_268 : decode cX5_draw 268 = .ok (.goto (-49), 3) := by decide +kernel
theorem dX5_draw_271 : decode cX5_draw 271 = .ok (.aload_n 0, 1) := by decide +kernel
theorem dX5_draw_272 : decode cX5_draw 272 = .ok (.iload_n 2, 1) := by decide +kernel
theorem dX5_draw_273 : decode cX5_draw 273 = .ok (.invokevirtual 102, 3) := by decide +kernel
theorem dX5_draw_276 : decode cX5_draw 276 = .ok (.aload_n 0, 1) := by decide +kernel
theorem dX5_draw_277 : decode cX5_draw 277 = .ok (.iload_n 2, 1) := by decide +kernel
theorem dX5_draw_278 : decode cX5_draw 278 = .ok (.bipush 7, 2) := by decide +kernel
theorem dX5_draw_280 : decode cX5_draw 280 = .ok (.ldc2_w 66, 3) := by decide +kernel
theorem dX5_draw_283 : decode cX5_draw 283 = .ok (.invokevirtual 62, 3) := by decide +kernel
theorem dX5_draw_286 : decode cX5_draw 286 = .ok (.aload_n 0, 1) := by decide +kernel
theorem dX5_draw_287 : decode cX5_draw 287 = .ok (.iload_n 2, 1) := by decide +kernel
theorem dX5_draw_288 : decode cX5_draw 288 = .ok (.bipush 9, 2) := by decide +kernel
theorem dX5_draw_290 : decode cX5_draw 290 = .ok (.ldc2_w 66, 3) := by decide +kernel
theorem dX5_draw_293 : decode cX5_draw 293 = .ok (.invokevirtual 62, 3) := by decide +kernel
theorem dX5_draw_296 : decode cX5_draw 296 = .ok (.aload_n 0, 1) := by decide +kernel
theorem dX5_draw_297 : decode cX5_draw 297 = .ok (.iload_n 2, 1) := by decide +kernel
theorem dX5_draw_298 : decode cX5_draw 298 = .ok (.iconst 5, 1) := by decide +kernel
theorem dX5_draw_299 : decode cX5_draw 299 = .ok (.lconst 1, 1) := by decide +kernel
theorem dX5_draw_300 : decode cX5_draw 300 = .ok (.invokevirtual 76, 3) := by decide +kernel
theorem dX5_draw_303 : decode cX5_draw 303 = .ok (.iconst 0, 1) := by decide +kernel
theorem dX5_draw_304 : decode cX5_draw 304 = .ok (.ireturn, 1) := by decide +kernel
theorem dX5_drawn_0 : decode cX5_drawn 0 = .ok (.aload_n 0, 1) := by decide +kernel
theorem dX5_drawn_1 : decode cX5_drawn 1 = .ok (.iload_n 1, 1) := by decide +kernel
theorem dX5_drawn_2 : decode cX5_drawn 2 = .ok (.invokevirtual 68, 3) := by decide +kernel
theorem dX5_drawn_5 : decode cX5_drawn 5 = .ok (.ifCond .eq 28, 3) := by decide +kernel
theorem dX5_drawn_8 : decode cX5_drawn 8 = .ok (.iload_n 2, 1) := by decide +kernel
theorem dX5_drawn_9 : decode cX5_drawn 9 = .ok (.ifCond .lt 24, 3) := by decide +kernel
theorem dX5_drawn_12 : decode cX5_drawn 12 = .ok (.iload_n 2, 1) := by decide +kernel
theorem dX5_drawn_13 : decode cX5_drawn 13 = .ok (.i2l, 1) := by decide +kernel
theorem dX5_drawn_14 : decode cX5_drawn 14 = .ok (.aload_n 0, 1) := by decide +kernel
theorem dX5_drawn_15 : decode cX5_drawn 15 = .ok (.iload_n 1, 1) := by decide +kernel
theorem dX5_drawn_16 : decode cX5_drawn 16 = .ok (.iconst 5, 1) := by decide +kernel
theorem dX5_drawn_17 : decode cX5_drawn 17 = .ok (.invokevirtual 41, 3) := by decide +kernel
theorem dX5_drawn_20 : decode cX5_drawn 20 = .ok (.lcmp, 1) := by decide +kernel
theorem dX5_drawn_21 : decode cX5_drawn 21 = .ok (.ifCond .ge 12, 3) := by decide +kernel
theorem dX5_drawn_24 : decode cX5_drawn 24 = .ok (.iload_n 3, 1) := by decide +kernel
theorem dX5_drawn_25 : decode cX5_drawn 25 = .ok (.ifCond .lt 8, 3) := by decide +kernel
theorem dX5_drawn_28 : decode cX5_drawn 28 = .ok (.iload_n 3, 1) := by decide +kernel
theorem dX5_drawn_29 : decode cX5_drawn 29 = .ok (.iconst 3, 1) := by decide +kernel
theorem dX5_drawn_30 : decode cX5_drawn 30 = .ok (.if_icmp .le 9, 3) := by decide +kernel
theorem dX5_drawn_33 : decode cX5_drawn 33 = .ok (.ldc2_w 66, 3) := by decide +kernel
theorem dX5_drawn_36 : decode cX5_drawn 36 = .ok (.goto 17, 3) := by decide +kernel
theorem dX5_drawn_39 : decode cX5_drawn 39 = .ok (.aload_n 0, 1) := by decide +kernel
theorem dX5_drawn_40 : decode cX5_drawn 40 = .ok (.iload_n 1, 1) := by decide +kernel
theorem dX5_drawn_41 : decode cX5_drawn 41 = .ok (.sipush 1153, 3) := by decide +kernel
theorem dX5_drawn_44 : decode cX5_drawn 44 = .ok (.iconst 4, 1) := by decide +kernel
theorem dX5_drawn_45 : decode cX5_drawn 45 = .ok (.iload_n 2, 1) := by decide +kernel
theorem dX5_drawn_46 : decode cX5_drawn 46 = .ok (.imul, 1) := by decide +kernel
theorem dX5_drawn_47 : decode cX5_drawn 47 = .ok (.iadd, 1) := by decide +kernel
theorem dX5_drawn_48 : decode cX5_drawn 48 = .ok (.iload_n 3, 1) := by decide +kernel
theorem dX5_drawn_49 : decode cX5_drawn 49 = .ok (.iadd, 1) := by decide +kernel
theorem dX5_drawn_50 : decode cX5_drawn 50 = .ok (.invokevirtual 41, 3) := by decide +kernel
theorem dX5_drawn_53 : decode cX5_drawn 53 = .ok (.lreturn, 1) := by decide +kernel
theorem dX5_stopAt_0 : decode cX5_stopAt 0 = .ok (.iconst 5, 1) := by decide +kernel
theorem dX5_stopAt_1 : decode cX5_stopAt 1 = .ok (.sipush 600, 3) := by decide +kernel
theorem dX5_stopAt_4 : decode cX5_stopAt 4 = .ok (.iload_n 0, 1) := by decide +kernel
theorem dX5_stopAt_5 : decode cX5_stopAt 5 = .ok (.imul, 1) := by decide +kernel
theorem dX5_stopAt_6 : decode cX5_stopAt 6 = .ok (.iload_n 1, 1) := by decide +kernel
theorem dX5_stopAt_7 : decode cX5_stopAt 7 = .ok (.iadd, 1) := by decide +kernel
theorem dX5_stopAt_8 : decode cX5_stopAt 8 = .ok (.imul, 1) := by decide +kernel
theorem dX5_stopAt_9 : decode cX5_stopAt 9 = .ok (.iload_n 2, 1) := by decide +kernel
theorem dX5_stopAt_10 : decode cX5_stopAt 10 = .ok (.iadd, 1) := by decide +kernel
theorem dX5_stopAt_11 : decode cX5_stopAt 11 = .ok (.ireturn, 1) := by decide +kernel
theorem dX5_backComes_0 : decode cX5_backComes 0 = .ok (.aload_n 0, 1) := by decide +kernel
theorem dX5_backComes_1 : decode cX5_backComes 1 = .ok (.iload_n 1, 1) := by decide +kernel
theorem dX5_backComes_2 : decode cX5_backComes 2 = .ok (.iload_n 2, 1) := by decide +kernel
theorem dX5_backComes_3 : decode cX5_backComes 3 = .ok (.bipush 11, 2) := by decide +kernel
theorem dX5_backComes_5 : decode cX5_backComes 5 = .ok (.invokestatic 37, 3) := by decide +kernel
theorem dX5_backComes_8 : decode cX5_backComes 8 = .ok (.aload_n 0, 1) := by decide +kernel
theorem dX5_backComes_9 : decode cX5_backComes 9 = .ok (.iload_n 1, 1) := by decide +kernel
theorem dX5_backComes_10 : decode cX5_backComes 10 = .ok (.iload_n 2, 1) := by decide +kernel
theorem dX5_backComes_11 : decode cX5_backComes 11 = .ok (.bipush 7, 2) := by decide +kernel
theorem dX5_backComes_13 : decode cX5_backComes 13 = .ok (.invokestatic 37, 3) := by decide +kernel
theorem dX5_backComes_16 : decode cX5_backComes 16 = .ok (.invokevirtual 41, 3) := by decide +kernel
theorem dX5_backComes_19 : decode cX5_backComes 19 = .ok (.invokevirtual 76, 3) := by decide +kernel
theorem dX5_backComes_22 : decode cX5_backComes 22 = .ok (.aload_n 0, 1) := by decide +kernel
theorem dX5_backComes_23 : decode cX5_backComes 23 = .ok (.iload_n 1, 1) := by decide +kernel
theorem dX5_backComes_24 : decode cX5_backComes 24 = .ok (.iload_n 2, 1) := by decide +kernel
theorem dX5_backComes_25 : decode cX5_backComes 25 = .ok (.bipush 7, 2) := by decide +kernel
theorem dX5_backComes_27 : decode cX5_backComes 27 = .ok (.invokestatic 37, 3) := by decide +kernel
theorem dX5_backComes_30 : decode cX5_backComes 30 = .ok (.lconst 0, 1) := by decide +kernel
theorem dX5_backComes_31 : decode cX5_backComes 31 = .ok (.invokevirtual 62, 3) := by decide +kernel
theorem dX5_backComes_34 : decode cX5_backComes 34 = .ok (.return_, 1) := by decide +kernel
theorem dX5_stop_0 : decode cX5_stop 0 = .ok (.aload_n 0, 1) := by decide +kernel
theorem dX5_stop_1 : decode cX5_stop 1 = .ok (.iload_n 1, 1) := by decide +kernel
theorem dX5_stop_2 : decode cX5_stop 2 = .ok (.iload_n 2, 1) := by decide +kernel
theorem dX5_stop_3 : decode cX5_stop 3 = .ok (.invokevirtual 81, 3) := by decide +kernel
theorem dX5_stop_6 : decode cX5_stop 6 = .ok (.istore_n 3, 1) := by decide +kernel
theorem dX5_stop_7 : decode cX5_stop 7 = .ok (.iload_n 3, 1) := by decide +kernel
theorem dX5_stop_8 : decode cX5_stop 8 = .ok (.ifCond .eq 5, 3) := by decide +kernel
theorem dX5_stop_11 : decode cX5_stop 11 = .ok (.iload_n 3, 1) := by decide +kernel
theorem dX5_stop_12 : decode cX5_stop 12 = .ok (.ireturn, 1) := by decide +kernel
theorem dX5_stop_13 : decode cX5_stop 13 = .ok (.iload_n 1, 1) := by decide +kernel
theorem dX5_stop_14 : decode cX5_stop 14 = .ok (.istore 4, 2) := by decide +kernel
theorem dX5_stop_16 : decode cX5_stop 16 = .ok (.aload_n 0, 1) := by decide +kernel
theorem dX5_stop_17 : decode cX5_stop 17 = .ok (.iload 4, 2) := by decide +kernel
theorem dX5_stop_19 : decode cX5_stop 19 = .ok (.iload_n 2, 1) := by decide +kernel
theorem dX5_stop_20 : decode cX5_stop 20 = .ok (.invokevirtual 85, 3) := by decide +kernel
theorem dX5_stop_23 : decode cX5_stop 23 = .ok (.aload_n 0, 1) := by decide +kernel
theorem dX5_stop_24 : decode cX5_stop 24 = .ok (.iload 4, 2) := by decide +kernel
theorem dX5_stop_26 : decode cX5_stop 26 = .ok (.iload_n 2, 1) := by decide +kernel
theorem dX5_stop_27 : decode cX5_stop 27 = .ok (.bipush 15, 2) := by decide +kernel
theorem dX5_stop_29 : decode cX5_stop 29 = .ok (.invokestatic 37, 3) := by decide +kernel
theorem dX5_stop_32 : decode cX5_stop 32 = .ok (.lconst 0, 1) := by decide +kernel
theorem dX5_stop_33 : decode cX5_stop 33 = .ok (.invokevirtual 62, 3) := by decide +kernel
theorem dX5_stop_36 : decode cX5_stop 36 = .ok (.aload_n 0, 1) := by decide +kernel
theorem dX5_stop_37 : decode cX5_stop 37 = .ok (.iload 4, 2) := by decide +kernel
theorem dX5_stop_39 : decode cX5_stop 39 = .ok (.iload_n 2, 1) := by decide +kernel
theorem dX5_stop_40 : decode cX5_stop 40 = .ok (.bipush 16, 2) := by decide +kernel
theorem dX5_stop_42 : decode cX5_stop 42 = .ok (.invokestatic 37, 3) := by decide +kernel
theorem dX5_stop_45 : decode cX5_stop 45 = .ok (.lconst 0, 1) := by decide +kernel
theorem dX5_stop_46 : decode cX5_stop 46 = .ok (.invokevirtual 62, 3) := by decide +kernel
theorem dX5_stop_49 : decode cX5_stop 49 = .ok (.aload_n 0, 1) := by decide +kernel
theorem dX5_stop_50 : decode cX5_stop 50 = .ok (.iload 4, 2) := by decide +kernel
theorem dX5_stop_52 : decode cX5_stop 52 = .ok (.bipush 9, 2) := by decide +kernel
theorem dX5_stop_54 : decode cX5_stop 54 = .ok (.invokevirtual 41, 3) := by decide +kernel
theorem dX5_stop_57 : decode cX5_stop 57 = .ok (.iload_n 2, 1) := by decide +kernel
theorem dX5_stop_58 : decode cX5_stop 58 = .ok (.i2l, 1) := by decide +kernel
theorem dX5_stop_59 : decode cX5_stop 59 = .ok (.lcmp, 1) := by decide +kernel
theorem dX5_stop_60 : decode cX5_stop 60 = .ok (.ifCond .ne 14, 3) := by decide +kernel
theorem dX5_stop_63 : decode cX5_stop 63 = .ok (.aload_n 0, 1) := by decide +kernel
theorem dX5_stop_64 : decode cX5_stop 64 = .ok (.iload 4, 2) := by decide +kernel
theorem dX5_stop_66 : decode cX5_stop 66 = .ok (.bipush 9, 2) := by decide +kernel
theorem dX5_stop_68 : decode cX5_stop 68 = .ok (.ldc2_w 66, 3) := by decide +kernel
theorem dX5_stop_71 : decode cX5_stop 71 = .ok (.invokevirtual 62, 3) := by decide +kernel
theorem dX5_stop_74 : decode cX5_stop 74 = .ok (.aload_n 0, 1) := by decide +kernel
theorem dX5_stop_75 : decode cX5_stop 75 = .ok (.iload 4, 2) := by decide +kernel
theorem dX5_stop_77 : decode cX5_stop 77 = .ok (.iload_n 2, 1) := by decide +kernel
theorem dX5_stop_78 : decode cX5_stop 78 = .ok (.iconst 3, 1) := by decide +kernel
theorem dX5_stop_79 : decode cX5_stop 79 = .ok (.invokestatic 37, 3) := by decide +kernel
theorem dX5_stop_82 : decode cX5_stop 82 = .ok (.invokevirtual 41, 3) := by decide +kernel
theorem dX5_stop_85 : decode cX5_stop 85 = .ok (.lconst 1, 1) := by decide +kernel
theorem dX5_stop_86 : decode cX5_stop 86 = .ok (.lcmp, 1) := by decide +kernel
theorem dX5_stop_87 : decode cX5_stop 87 = .ok (.ifCond .ne 7, 3) := by decide +kernel
theorem dX5_stop_90 : decode cX5_stop 90 = .ok (.iconst 1, 1) := by decide +kernel
theorem dX5_stop_91 : decode cX5_stop 91 = .ok (.goto 4, 3) := by decide +kernel
theorem dX5_stop_94 : decode cX5_stop 94 = .ok (.iconst 0, 1) := by decide +kernel
theorem dX5_stop_95 : decode cX5_stop 95 = .ok (.istore 5, 2) := by decide +kernel
theorem dX5_stop_97 : decode cX5_stop 97 = .ok (.aload_n 0, 1) := by decide +kernel
theorem dX5_stop_98 : decode cX5_stop 98 = .ok (.iload 4, 2) := by decide +kernel
theorem dX5_stop_100 : decode cX5_stop 100 = .ok (.bipush 8, 2) := by decide +kernel
theorem dX5_stop_102 : decode cX5_stop 102 = .ok (.invokevirtual 41, 3) := by decide +kernel
theorem dX5_stop_105 : decode cX5_stop 105 = .ok (.l2i, 1) := by decide +kernel
theorem dX5_stop_106 : decode cX5_stop 106 = .ok (.istore 6, 2) := by decide +kernel
theorem dX5_stop_108 : decode cX5_stop 108 = .ok (.aload_n 0, 1) := by decide +kernel
theorem dX5_stop_109 : decode cX5_stop 109 = .ok (.getfield 23, 3) := by decide +kernel
theorem dX5_stop_112 : decode cX5_stop 112 = .ok (.iload 4, 2) := by decide +kernel
theorem dX5_stop_114 : decode cX5_stop 114 = .ok (.iload 6, 2) := by decide +kernel
theorem dX5_stop_116 : decode cX5_stop 116 = .ok (.iconst 0, 1) := by decide +kernel
theorem dX5_stop_117 : decode cX5_stop 117 = .ok (.invokestatic 160, 3) := by decide +kernel
theorem dX5_stop_120 : decode cX5_stop 120 = .ok (.iload_n 2, 1) := by decide +kernel
theorem dX5_stop_121 : decode cX5_stop 121 = .ok (.i2l, 1) := by decide +kernel
theorem dX5_stop_122 : decode cX5_stop 122 = .ok (.lastore, 1) := by decide +kernel
theorem dX5_stop_123 : decode cX5_stop 123 = .ok (.aload_n 0, 1) := by decide +kernel
theorem dX5_stop_124 : decode cX5_stop 124 = .ok (.getfield 23, 3) := by decide +kernel
theorem dX5_stop_127 : decode cX5_stop 127 = .ok (.iload 4, 2) := by decide +kernel
theorem dX5_stop_129 : decode cX5_stop 129 = .ok (.iload 6, 2) := by decide +kernel
theorem dX5_stop_131 : decode cX5_stop 131 = .ok (.iconst 1, 1) := by decide +kernel
theorem dX5_stop_132 : decode cX5_stop 132 = .ok (.invokestatic 160, 3) := by decide +kernel
theorem dX5_stop_135 : decode cX5_stop 135 = .ok (.aload_n 0, 1) := by decide +kernel
theorem dX5_stop_136 : decode cX5_stop 136 = .ok (.iload 4, 2) := by decide +kernel
theorem dX5_stop_138 : decode cX5_stop 138 = .ok (.iconst 5, 1) := by decide +kernel
theorem dX5_stop_139 : decode cX5_stop 139 = .ok (.invokevirtual 41, 3) := by decide +kernel
theorem dX5_stop_142 : decode cX5_stop 142 = .ok (.lastore, 1) := by decide +kernel
theorem dX5_stop_143 : decode cX5_stop 143 = .ok (.aload_n 0, 1) := by decide +kernel
theorem dX5_stop_144 : decode cX5_stop 144 = .ok (.getfield 23, 3) := by decide +kernel
theorem dX5_stop_147 : decode cX5_stop 147 = .ok (.iload 4, 2) := by decide +kernel
theorem dX5_stop_149 : decode cX5_stop 149 = .ok (.iload 6, 2) := by decide +kernel
theorem dX5_stop_151 : decode cX5_stop 151 = .ok (.iconst 2, 1) := by decide +kernel
theorem dX5_stop_152 : decode cX5_stop 152 = .ok (.invokestatic 160, 3) := by decide +kernel
theorem dX5_stop_155 : decode cX5_stop 155 = .ok (.iload 5, 2) := by decide +kernel
theorem dX5_stop_157 : decode cX5_stop 157 = .ok (.ifCond .eq 7, 3) := by decide +kernel
theorem dX5_stop_160 : decode cX5_stop 160 = .ok (.lconst 0, 1) := by decide +kernel
theorem dX5_stop_161 : decode cX5_stop 161 = .ok (.goto 27, 3) := by decide +kernel
theorem dX5_stop_164 : decode cX5_stop 164 = .ok (.lconst 0, 1) := by decide +kernel
theorem dX5_stop_165 : decode cX5_stop 165 = .ok (.aload_n 0, 1) := by decide +kernel
theorem dX5_stop_166 : decode cX5_stop 166 = .ok (.iload 4, 2) := by decide +kernel
theorem dX5_stop_168 : decode cX5_stop 168 = .ok (.iload_n 2, 1) := by decide +kernel
theorem dX5_stop_169 : decode cX5_stop 169 = .ok (.bipush 8, 2) := by decide +kernel
theorem dX5_stop_171 : decode cX5_stop 171 = .ok (.invokestatic 37, 3) := by decide +kernel
theorem dX5_stop_174 : decode cX5_stop 174 = .ok (.invokevirtual 41, 3) := by decide +kernel
theorem dX5_stop_177 : decode cX5_stop 177 = .ok (.aload_n 0, 1) := by decide +kernel
theorem dX5_stop_178 : decode cX5_stop 178 = .ok (.iload 4, 2) := by decide +kernel
theorem dX5_stop_180 : decode cX5_stop 180 = .ok (.iconst 2, 1) := by decide +kernel
theorem dX5_stop_181 : decode cX5_stop 181 = .ok (.invokevirtual 41, 3) := by decide +kernel
theorem dX5_stop_184 : decode cX5_stop 184 = .ok (.lsub, 1) := by decide +kernel
theorem dX5_stop_185 : decode cX5_stop 185 = .ok (.invokestatic 164, 3) := by decide +kernel
theorem dX5_stop_188 : decode cX5_stop 188 = .ok (.lastore, 1) := by decide +kernel
theorem dX5_stop_189 : decode cX5_stop 189 = .ok (.aload_n 0, 1) := by decide +kernel
theorem dX5_stop_190 : decode cX5_stop 190 = .ok (.getfield 23, 3) := by decide +kernel
theorem dX5_stop_193 : decode cX5_stop 193 = .ok (.iload 4, 2) := by decide +kernel
theorem dX5_stop_195 : decode cX5_stop 195 = .ok (.iload 6, 2) := by decide +kernel
theorem dX5_stop_197 : decode cX5_stop 197 = .ok (.iconst 3, 1) := by decide +kernel
theorem dX5_stop_198 : decode cX5_stop 198 = .ok (.invokestatic 160, 3) := by decide +kernel
theorem dX5_stop_201 : decode cX5_stop 201 = .ok (.iload 5, 2) := by decide +kernel
theorem dX5_stop_203 : decode cX5_stop 203 = .ok (.ifCond .eq 42, 3) := by decide +kernel
theorem dX5_stop_206 : decode cX5_stop 206 = .ok (.aload_n 0, 1) := by decide +kernel
theorem dX5_stop_207 : decode cX5_stop 207 = .ok (.iload 4, 2) := by decide +kernel
theorem dX5_stop_209 : decode cX5_stop 209 = .ok (.iconst 1, 1) := by decide +kernel
theorem dX5_stop_210 : decode cX5_stop 210 = .ok (.invokevirtual 41, 3) := by decide +kernel
theorem dX5_stop_213 : decode cX5_stop 213 = .ok (.aload_n 0, 1) := by decide +kernel
theorem dX5_stop_214 : decode cX5_stop 214 = .ok (.iload 4, 2) := by decide +kernel
theorem dX5_stop_216 : decode cX5_stop 216 = .ok (.bipush 6, 2) := by decide +kernel
theorem dX5_stop_218 : decode cX5_stop 218 = .ok (.invokevirtual 41, 3) := by decide +kernel
theorem dX5_stop_221 : decode cX5_stop 221 = .ok (.aload_n 0, 1) := by decide +kernel
theorem dX5_stop_222 : decode cX5_stop 222 = .ok (.iload 4, 2) := by decide +kernel
theorem dX5_stop_224 : decode cX5_stop 224 = .ok (.iconst 5, 1) := by decide +kernel
theorem dX5_stop_225 : decode cX5_stop 225 = .ok (.invokevirtual 41, 3) := by decide +kernel
theorem dX5_stop_228 : decode cX5_stop 228 = .ok (.lsub, 1) := by decide +kernel
theorem dX5_stop_229 : decode cX5_stop 229 = .ok (.lmul, 1) := by decide +kernel
theorem dX5_stop_230 : decode cX5_stop 230 = .ok (.aload_n 0, 1) := by decide +kernel
theorem dX5_stop_231 : decode cX5_stop 231 = .ok (.iload 4, 2) := by decide +kernel
theorem dX5_stop_233 : decode cX5_stop 233 = .ok (.iload_n 2, 1) := by decide +kernel
theorem dX5_stop_234 : decode cX5_stop 234 = .ok (.iconst 5, 1) := by decide +kernel
theorem dX5_stop_235 : decode cX5_stop 235 = .ok (.invokestatic 37, 3) := by decide +kernel
theorem dX5_stop_238 : decode cX5_stop 238 = .ok (.invokevirtual 41, 3) := by decide +kernel
theorem dX5_stop_241 : decode cX5_stop 241 = .ok (.ladd, 1) := by decide +kernel
theorem dX5_stop_242 : decode cX5_stop 242 = .ok (.goto 4, 3) := by decide +kernel
theorem dX5_stop_245 : decode cX5_stop 245 = .ok (.lconst 0, 1) := by decide +kernel
theorem dX5_stop_246 : decode cX5_stop 246 = .ok (.lastore, 1) := by decide +kernel
theorem dX5_stop_247 : decode cX5_stop 247 = .ok (.aload_n 0, 1) := by decide +kernel
theorem dX5_stop_248 : decode cX5_stop 248 = .ok (.getfield 23, 3) := by decide +kernel
theorem dX5_stop_251 : decode cX5_stop 251 = .ok (.iload 4, 2) := by decide +kernel
theorem dX5_stop_253 : decode cX5_stop 253 = .ok (.iload 6, 2) := by decide +kernel
theorem dX5_stop_255 : decode cX5_stop 255 = .ok (.iconst 4, 1) := by decide +kernel
theorem dX5_stop_256 : decode cX5_stop 256 = .ok (.invokestatic 160, 3) := by decide +kernel
theorem dX5_stop_259 : decode cX5_stop 259 = .ok (.lconst 0, 1) := by decide +kernel
theorem dX5_stop_260 : decode cX5_stop 260 = .ok (.lastore, 1) := by decide +kernel
theorem dX5_stop_261 : decode cX5_stop 261 = .ok (.aload_n 0, 1) := by decide +kernel
theorem dX5_stop_262 : decode cX5_stop 262 = .ok (.iload 4, 2) := by decide +kernel
theorem dX5_stop_264 : decode cX5_stop 264 = .ok (.bipush 8, 2) := by decide +kernel
theorem dX5_stop_266 : decode cX5_stop 266 = .ok (.lconst 1, 1) := by decide +kernel
theorem dX5_stop_267 : decode cX5_stop 267 = .ok (.invokevirtual 76, 3) := by decide +kernel
theorem dX5_stop_270 : decode cX5_stop 270 = .ok (.aload_n 0, 1) := by decide +kernel
theorem dX5_stop_271 : decode cX5_stop 271 = .ok (.iload 4, 2) := by decide +kernel
theorem dX5_stop_273 : decode cX5_stop 273 = .ok (.iload_n 2, 1) := by decide +kernel
theorem dX5_stop_274 : decode cX5_stop 274 = .ok (.iconst 4, 1) := by decide +kernel
theorem dX5_stop_275 : decode cX5_stop 275 = .ok (.invokestatic 37, 3) := by decide +kernel
theorem dX5_stop_278 : decode cX5_stop 278 = .ok (.lconst 1, 1) := by decide +kernel
theorem dX5_stop_279 : decode cX5_stop 279 = .ok (.invokevirtual 62, 3) := by decide +kernel
theorem dX5_stop_282 : decode cX5_stop 282 = .ok (.aload_n 0, 1) := by decide +kernel
theorem dX5_stop_283 : decode cX5_stop 283 = .ok (.iload 4, 2) := by decide +kernel
theorem dX5_stop_285 : decode cX5_stop 285 = .ok (.iload_n 2, 1) := by decide +kernel
theorem dX5_stop_286 : decode cX5_stop 286 = .ok (.bipush 12, 2) := by decide +kernel
theorem dX5_stop_288 : decode cX5_stop 288 = .ok (.invokestatic 37, 3) := by decide +kernel
theorem dX5_stop_291 : decode cX5_stop 291 = .ok (.lconst 0, 1) := by decide +kernel
theorem dX5_stop_292 : decode cX5_stop 292 = .ok (.invokevirtual 62, 3) := by decide +kernel
theorem dX5_stop_295 : decode cX5_stop 295 = .ok (.aload_n 0, 1) := by decide +kernel
theorem dX5_stop_296 : decode cX5_stop 296 = .ok (.iload 4, 2) := by decide +kernel
theorem dX5_stop_298 : decode cX5_stop 298 = .ok (.iload_n 2, 1) := by decide +kernel
theorem dX5_stop_299 : decode cX5_stop 299 = .ok (.iconst 5, 1) := by decide +kernel
theorem dX5_stop_300 : decode cX5_stop 300 = .ok (.invokestatic 37, 3) := by decide +kernel
theorem dX5_stop_303 : decode cX5_stop 303 = .ok (.lconst 0, 1) := by decide +kernel
theorem dX5_stop_304 : decode cX5_stop 304 = .ok (.invokevirtual 62, 3) := by decide +kernel
theorem dX5_stop_307 : decode cX5_stop 307 = .ok (.aload_n 0, 1) := by decide +kernel
theorem dX5_stop_308 : decode cX5_stop 308 = .ok (.iload 4, 2) := by decide +kernel
theorem dX5_stop_310 : decode cX5_stop 310 = .ok (.iload_n 2, 1) := by decide +kernel
theorem dX5_stop_311 : decode cX5_stop 311 = .ok (.invokevirtual 167, 3) := by decide +kernel
theorem dX5_stop_314 : decode cX5_stop 314 = .ok (.iconst 0, 1) := by decide +kernel
theorem dX5_stop_315 : decode cX5_stop 315 = .ok (.ireturn, 1) := by decide +kernel
theorem dX5_replace_0 : decode cX5_replace 0 = .ok (.aload_n 0, 1) := by decide +kernel
theorem dX5_replace_1 : decode cX5_replace 1 = .ok (.iload_n 1, 1) := by decide +kernel
theorem dX5_replace_2 : decode cX5_replace 2 = .ok (.iload_n 2, 1) := by decide +kernel
theorem dX5_replace_3 : decode cX5_replace 3 = .ok (.invokevirtual 81, 3) := by decide +kernel
theorem dX5_replace_6 : decode cX5_replace 6 = .ok (.istore 4, 2) := by decide +kernel
theorem dX5_replace_8 : decode cX5_replace 8 = .ok (.iload 4, 2) := by decide +kernel
theorem dX5_replace_10 : decode cX5_replace 10 = .ok (.ifCond .eq 13, 3) := by decide +kernel
theorem dX5_replace_13 : decode cX5_replace 13 = .ok (.iload 4, 2) := by decide +kernel
theorem dX5_replace_15 : decode cX5_replace 15 = .ok (.bipush 10, 2) := by decide +kernel
theorem dX5_replace_17 : decode cX5_replace 17 = .ok (.if_icmp .eq 6, 3) := by decide +kernel
theorem dX5_replace_20 : decode cX5_replace 20 = .ok (.iload 4, 2) := by decide +kernel
theorem dX5_replace_22 : decode cX5_replace 22 = .ok (.ireturn, 1) := by decide +kernel
theorem dX5_replace_23 : decode cX5_replace 23 = .ok (.iload 4, 2) := by decide +kernel
theorem dX5_replace_25 : decode cX5_replace 25 = .ok (.ifCond .ne 6, 3) := by decide +kernel
theorem dX5_replace_28 : decode cX5_replace 28 = .ok (.bipush 8, 2) := by decide +kernel
theorem dX5_replace_30 : decode cX5_replace 30 = .ok (.ireturn, 1) := by decide +kernel
theorem dX5_replace_31 : decode cX5_replace 31 = .ok (.iload_n 3, 1) := by decide +kernel
theorem dX5_replace_32 : decode cX5_replace 32 = .ok (.iconst 2, 1) := by decide +kernel
theorem dX5_replace_33 : decode cX5_replace 33 = .ok (.if_icmp .lt 8, 3) := by decide +kernel
theorem dX5_replace_36 : decode cX5_replace 36 = .ok (.iload_n 3, 1) := by decide +kernel
theorem dX5_replace_37 : decode cX5_replace 37 = .ok (.iconst 4, 1) := by decide +kernel
theorem dX5_replace_38 : decode cX5_replace 38 = .ok (.if_icmp .le 5, 3) := by decide +kernel
theorem dX5_replace_41 : decode cX5_replace 41 = .ok (.iconst 4, 1) := by decide +kernel
theorem dX5_replace_42 : decode cX5_replace 42 = .ok (.ireturn, 1) := by decide +kernel
theorem dX5_replace_43 : decode cX5_replace 43 = .ok (.aload_n 0, 1) := by decide +kernel
theorem dX5_replace_44 : decode cX5_replace 44 = .ok (.iload_n 1, 1) := by decide +kernel
theorem dX5_replace_45 : decode cX5_replace 45 = .ok (.iload_n 2, 1) := by decide +kernel
theorem dX5_replace_46 : decode cX5_replace 46 = .ok (.iconst 0, 1) := by decide +kernel
theorem dX5_replace_47 : decode cX5_replace 47 = .ok (.invokestatic 37, 3) := by decide +kernel
theorem dX5_replace_50 : decode cX5_replace 50 = .ok (.iload_n 3, 1) := by decide +kernel
theorem dX5_replace_51 : decode cX5_replace 51 = .ok (.i2l, 1) := by decide +kernel
theorem dX5_replace_52 : decode cX5_replace 52 = .ok (.invokevirtual 62, 3) := by decide +kernel
theorem dX5_replace_55 : decode cX5_replace 55 = .ok (.aload_n 0, 1) := by decide +kernel
theorem dX5_replace_56 : decode cX5_replace 56 = .ok (.iload_n 1, 1) := by decide +kernel
theorem dX5_replace_57 : decode cX5_replace 57 = .ok (.iload_n 2, 1) := by decide +kernel
theorem dX5_replace_58 : decode cX5_replace 58 = .ok (.iconst 4, 1) := by decide +kernel
theorem dX5_replace_59 : decode cX5_replace 59 = .ok (.invokestatic 37, 3) := by decide +kernel
theorem dX5_replace_62 : decode cX5_replace 62 = .ok (.lconst 0, 1) := by decide +kernel
theorem dX5_replace_63 : decode cX5_replace 63 = .ok (.invokevirtual 62, 3) := by decide +kernel
theorem dX5_replace_66 : decode cX5_replace 66 = .ok (.aload_n 0, 1) := by decide +kernel
theorem dX5_replace_67 : decode cX5_replace 67 = .ok (.iload_n 1, 1) := by decide +kernel
theorem dX5_replace_68 : decode cX5_replace 68 = .ok (.iload_n 2, 1) := by decide +kernel
theorem dX5_replace_69 : decode cX5_replace 69 = .ok (.bipush 6, 2) := by decide +kernel
theorem dX5_replace_71 : decode cX5_replace 71 = .ok (.invokestatic 37, 3) := by decide +kernel
theorem dX5_replace_74 : decode cX5_replace 74 = .ok (.lconst 0, 1) := by decide +kernel
theorem dX5_replace_75 : decode cX5_replace 75 = .ok (.invokevirtual 62, 3) := by decide +kernel
theorem dX5_replace_78 : decode cX5_replace 78 = .ok (.aload_n 0, 1) := by decide +kernel
theorem dX5_replace_79 : decode cX5_replace 79 = .ok (.iload_n 1, 1) := by decide +kernel
theorem dX5_replace_80 : decode cX5_replace 80 = .ok (.iload_n 2, 1) := by decide +kernel
theorem dX5_replace_81 : decode cX5_replace 81 = .ok (.bipush 8, 2) := by decide +kernel
theorem dX5_replace_83 : decode cX5_replace 83 = .ok (.invokestatic 37, 3) := by decide +kernel
theorem dX5_replace_86 : decode cX5_replace 86 = .ok (.lconst 0, 1) := by decide +kernel
theorem dX5_replace_87 : decode cX5_replace 87 = .ok (.invokevirtual 62, 3) := by decide +kernel
theorem dX5_replace_90 : decode cX5_replace 90 = .ok (.aload_n 0, 1) := by decide +kernel
theorem dX5_replace_91 : decode cX5_replace 91 = .ok (.iload_n 1, 1) := by decide +kernel
theorem dX5_replace_92 : decode cX5_replace 92 = .ok (.iload_n 2, 1) := by decide +kernel
theorem dX5_replace_93 : decode cX5_replace 93 = .ok (.bipush 9, 2) := by decide +kernel
theorem dX5_replace_95 : decode cX5_replace 95 = .ok (.invokestatic 37, 3) := by decide +kernel
theorem dX5_replace_98 : decode cX5_replace 98 = .ok (.lconst 0, 1) := by decide +kernel
theorem dX5_replace_99 : decode cX5_replace 99 = .ok (.invokevirtual 62, 3) := by decide +kernel
theorem dX5_replace_102 : decode cX5_replace 102 = .ok (.aload_n 0, 1) := by decide +kernel
theorem dX5_replace_103 : decode cX5_replace 103 = .ok (.iload_n 1, 1) := by decide +kernel
theorem dX5_replace_104 : decode cX5_replace 104 = .ok (.iload_n 2, 1) := by decide +kernel
theorem dX5_replace_105 : decode cX5_replace 105 = .ok (.bipush 10, 2) := by decide +kernel
theorem dX5_replace_107 : decode cX5_replace 107 = .ok (.invokestatic 37, 3) := by decide +kernel
theorem dX5_replace_110 : decode cX5_replace 110 = .ok (.lconst 0, 1) := by decide +kernel
theorem dX5_replace_111 : decode cX5_replace 111 = .ok (.invokevirtual 62, 3) := by decide +kernel
theorem dX5_replace_114 : decode cX5_replace 114 = .ok (.aload_n 0, 1) := by decide +kernel
theorem dX5_replace_115 : decode cX5_replace 115 = .ok (.iload_n 1, 1) := by decide +kernel
theorem dX5_replace_116 : decode cX5_replace 116 = .ok (.iload_n 2, 1) := by decide +kernel
theorem dX5_replace_117 : decode cX5_replace 117 = .ok (.bipush 11, 2) := by decide +kernel
theorem dX5_replace_119 : decode cX5_replace 119 = .ok (.invokestatic 37, 3) := by decide +kernel
theorem dX5_replace_122 : decode cX5_replace 122 = .ok (.lconst 0, 1) := by decide +kernel
theorem dX5_replace_123 : decode cX5_replace 123 = .ok (.invokevirtual 62, 3) := by decide +kernel
theorem dX5_replace_126 : decode cX5_replace 126 = .ok (.iconst 0, 1) := by decide +kernel
theorem dX5_replace_127 : decode cX5_replace 127 = .ok (.ireturn, 1) := by decide +kernel
theorem dX5_stops_0 : decode cX5_stops 0 = .ok (.aload_n 0, 1) := by decide +kernel
theorem dX5_stops_1 : decode cX5_stops 1 = .ok (.iload_n 1, 1) := by decide +kernel
theorem dX5_stops_2 : decode cX5_stops 2 = .ok (.invokevirtual 68, 3) := by decide +kernel
theorem dX5_stops_5 : decode cX5_stops 5 = .ok (.ifCond .eq 29, 3) := by decide +kernel
theorem dX5_stops_8 : decode cX5_stops 8 = .ok (.iload_n 2, 1) := by decide +kernel
theorem dX5_stops_9 : decode cX5_stops 9 = .ok (.ifCond .lt 25, 3) := by decide +kernel
theorem dX5_stops_12 : decode cX5_stops 12 = .ok (.iload_n 2, 1) := by decide +kernel
theorem dX5_stops_13 : decode cX5_stops 13 = .ok (.i2l, 1) := by decide +kernel
theorem dX5_stops_14 : decode cX5_stops 14 = .ok (.aload_n 0, 1) := by decide +kernel
theorem dX5_stops_15 : decode cX5_stops 15 = .ok (.iload_n 1, 1) := by decide +kernel
theorem dX5_stops_16 : decode cX5_stops 16 = .ok (.bipush 8, 2) := by decide +kernel
theorem dX5_stops_18 : decode cX5_stops 18 = .ok (.invokevirtual 41, 3) := by decide +kernel
theorem dX5_stops_21 : decode cX5_stops 21 = .ok (.lcmp, 1) := by decide +kernel
theorem dX5_stops_22 : decode cX5_stops 22 = .ok (.ifCond .ge 12, 3) := by decide +kernel
theorem dX5_stops_25 : decode cX5_stops 25 = .ok (.iload_n 3, 1) := by decide +kernel
theorem dX5_stops_26 : decode cX5_stops 26 = .ok (.ifCond .lt 8, 3) := by decide +kernel
theorem dX5_stops_29 : decode cX5_stops 29 = .ok (.iload_n 3, 1) := by decide +kernel
theorem dX5_stops_30 : decode cX5_stops 30 = .ok (.iconst 4, 1) := by decide +kernel
theorem dX5_stops_31 : decode cX5_stops 31 = .ok (.if_icmp .le 9, 3) := by decide +kernel
theorem dX5_stops_34 : decode cX5_stops 34 = .ok (.ldc2_w 66, 3) := by decide +kernel
theorem dX5_stops_37 : decode cX5_stops 37 = .ok (.goto 14, 3) := by decide +kernel
theorem dX5_stops_40 : decode cX5_stops 40 = .ok (.aload_n 0, 1) := by decide +kernel
theorem dX5_stops_41 : decode cX5_stops 41 = .ok (.getfield 23, 3) := by decide +kernel
theorem dX5_stops_44 : decode cX5_stops 44 = .ok (.iload_n 1, 1) := by decide +kernel
theorem dX5_stops_45 : decode cX5_stops 45 = .ok (.iload_n 2, 1) := by decide +kernel
theorem dX5_stops_46 : decode cX5_stops 46 = .ok (.iload_n 3, 1) := by decide +kernel
theorem dX5_stops_47 : decode cX5_stops 47 = .ok (.invokestatic 160, 3) := by decide +kernel
theorem dX5_stops_50 : decode cX5_stops 50 = .ok (.laload, 1) := by decide +kernel
theorem dX5_stops_51 : decode cX5_stops 51 = .ok (.lreturn, 1) := by decide +kernel
theorem dX5_isFull_0 : decode cX5_isFull 0 = .ok (.aload_n 0, 1) := by decide +kernel
theorem dX5_isFull_1 : decode cX5_isFull 1 = .ok (.iload_n 1, 1) := by decide +kernel
theorem dX5_isFull_2 : decode cX5_isFull 2 = .ok (.iload_n 2, 1) := by decide +kernel
theorem dX5_isFull_3 : decode cX5_isFull 3 = .ok (.invokevirtual 51, 3) := by decide +kernel
theorem dX5_isFull_6 : decode cX5_isFull 6 = .ok (.ifCond .eq 23, 3) := by decide +kernel
theorem dX5_isFull_9 : decode cX5_isFull 9 = .ok (.aload_n 0, 1) := by decide +kernel
theorem dX5_isFull_10 : decode cX5_isFull 10 = .ok (.iload_n 1, 1) := by decide +kernel
theorem dX5_isFull_11 : decode cX5_isFull 11 = .ok (.iload_n 2, 1) := by decide +kernel
theorem dX5_isFull_12 : decode cX5_isFull 12 = .ok (.bipush 12, 2) := by decide +kernel
theorem dX5_isFull_14 : decode cX5_isFull 14 = .ok (.invokestatic 37, 3) := by decide +kernel
theorem dX5_isFull_17 : decode cX5_isFull 17 = .ok (.invokevirtual 41, 3) := by decide +kernel
theorem dX5_isFull_20 : decode cX5_isFull 20 = .ok (.lconst 1, 1) := by decide +kernel
theorem dX5_isFull_21 : decode cX5_isFull 21 = .ok (.lcmp, 1) := by decide +kernel
theorem dX5_isFull_22 : decode cX5_isFull 22 = .ok (.ifCond .ne 7, 3) := by decide +kernel
theorem dX5_isFull_25 : decode cX5_isFull 25 = .ok (.iconst 1, 1) := by decide +kernel
theorem dX5_isFull_26 : decode cX5_isFull 26 = .ok (.goto 4, 3) := by decide +kernel
theorem dX5_isFull_29 : decode cX5_isFull 29 = .ok (.iconst 0, 1) := by decide +kernel
theorem dX5_isFull_30 : decode cX5_isFull 30 = .ok (.ireturn, 1) := by decide +kernel
theorem dX5_close_0 : decode cX5_close 0 = .ok (.aload_n 0, 1) := by decide +kernel
theorem dX5_close_1 : decode cX5_close 1 = .ok (.iload_n 1, 1) := by decide +kernel
theorem dX5_close_2 : decode cX5_close 2 = .ok (.invokevirtual 68, 3) := by decide +kernel
theorem dX5_close_5 : decode cX5_close 5 = .ok (.ifCond .ne 5, 3) := by decide +kernel
theorem dX5_close_8 : decode cX5_close 8 = .ok (.iconst 1, 1) := by decide +kernel
theorem dX5_close_9 : decode cX5_close 9 = .ok (.ireturn, 1) := by decide +kernel
theorem dX5_close_10 : decode cX5_close 10 = .ok (.aload_n 0, 1) := by decide +kernel
theorem dX5_close_11 : decode cX5_close 11 = .ok (.iload_n 1, 1) := by decide +kernel
theorem dX5_close_12 : decode cX5_close 12 = .ok (.iconst 4, 1) := by decide +kernel
theorem dX5_close_13 : decode cX5_close 13 = .ok (.invokevirtual 41, 3) := by decide +kernel
theorem dX5_close_16 : decode cX5_close 16 = .ok (.lconst 1, 1) := by decide +kernel
theorem dX5_close_17 : decode cX5_close 17 = .ok (.lcmp, 1) := by decide +kernel
theorem dX5_close_18 : decode cX5_close 18 = .ok (.ifCond .eq 5, 3) := by decide +kernel
theorem dX5_close_21 : decode cX5_close 21 = .ok (.iconst 2, 1) := by decide +kernel
theorem dX5_close_22 : decode cX5_close 22 = .ok (.ireturn, 1) := by decide +kernel
theorem dX5_close_23 : decode cX5_close 23 = .ok (.aload_n 0, 1) := by decide +kernel
theorem dX5_close_24 : decode cX5_close 24 = .ok (.iload_n 1, 1) := by decide +kernel
theorem dX5_close_25 : decode cX5_close 25 = .ok (.iconst 5, 1) := by decide +kernel
theorem dX5_close_26 : decode cX5_close 26 = .ok (.invokevirtual 41, 3) := by decide +kernel
theorem dX5_close_29 : decode cX5_close 29 = .ok (.aload_n 0, 1) := by decide +kernel
theorem dX5_close_30 : decode cX5_close 30 = .ok (.iload_n 1, 1) := by decide +kernel
theorem dX5_close_31 : decode cX5_close 31 = .ok (.bipush 6, 2) := by decide +kernel
theorem dX5_close_33 : decode cX5_close 33 = .ok (.invokevirtual 41, 3) := by decide +kernel
theorem dX5_close_36 : decode cX5_close 36 = .ok (.lcmp, 1) := by decide +kernel
theorem dX5_close_37 : decode cX5_close 37 = .ok (.ifCond .ge 6, 3) := by decide +kernel
theorem dX5_close_40 : decode cX5_close 40 = .ok (.bipush 8, 2) := by decide +kernel
theorem dX5_close_42 : decode cX5_close 42 = .ok (.ireturn, 1) := by decide +kernel
theorem dX5_close_43 : decode cX5_close 43 = .ok (.iload_n 1, 1) := by decide +kernel
theorem dX5_close_44 : decode cX5_close 44 = .ok (.istore_n 2, 1) := by decide +kernel
theorem dX5_close_45 : decode cX5_close 45 = .ok (.iconst 0, 1) := by decide +kernel
theorem dX5_close_46 : decode cX5_close 46 = .ok (.istore_n 3, 1) := by decide +kernel
theorem dX5_close_47 : decode cX5_close 47 = .ok (.iload_n 3, 1) := by decide +kernel
theorem dX5_close_48 : decode cX5_close 48 = .ok (.bipush 60, 2) := by decide +kernel
theorem dX5_close_50 : decode cX5_close 50 = .ok (.if_icmp .ge 15, 3) := by decide +kernel
theorem dX5_close_53 : decode cX5_close 53 = .ok (.aload_n 0, 1) := by decide +kernel
theorem dX5_close_54 : decode cX5_close 54 = .ok (.iload_n 2, 1) := by decide +kernel
theorem dX5_close_55 : decode cX5_close 55 = .ok (.iload_n 3, 1) := by decide +kernel
theorem dX5_close_56 : decode cX5_close 56 = .ok (.invokevirtual 167, 3) := by decide +kernel
theorem dX5_close_59 : decode cX5_close 59 = .ok (.iinc 3 1, 3) := by decide +kernel
theorem dX5_close_62 : decode cX5_close 62 = .ok (.goto (-15), 3) := by decide +kernel
theorem dX5_close_65 : decode cX5_close 65 = .ok (.iconst 0, 1) := by decide +kernel
theorem dX5_close_66 : decode cX5_close 66 = .ok (.istore_n 3, 1) := by decide +kernel
theorem dX5_close_67 : decode cX5_close 67 = .ok (.iload_n 3, 1) := by decide +kernel
theorem dX5_close_68 : decode cX5_close 68 = .ok (.i2l, 1) := by decide +kernel
theorem dX5_close_69 : decode cX5_close 69 = .ok (.aload_n 0, 1) := by decide +kernel
theorem dX5_close_70 : decode cX5_close 70 = .ok (.iload_n 2, 1) := by decide +kernel
theorem dX5_close_71 : decode cX5_close 71 = .ok (.bipush 8, 2) := by decide +kernel
theorem dX5_close_73 : decode cX5_close 73 = .ok (.invokevirtual 41, 3) := by decide +kernel
theorem dX5_close_76 : decode cX5_close 76 = .ok (.lcmp, 1) := by decide +kernel
theorem dX5_close_77 : decode cX5_close 77 = .ok (.ifCond .ge 60, 3) := by decide +kernel
theorem dX5_close_80 : decode cX5_close 80 = .ok (.aload_n 0, 1) := by decide +kernel
theorem dX5_close_81 : decode cX5_close 81 = .ok (.getfield 23, 3) := by decide +kernel
theorem dX5_close_84 : decode cX5_close 84 = .ok (.iload_n 2, 1) := by decide +kernel
theorem dX5_close_85 : decode cX5_close 85 = .ok (.iload_n 3, 1) := by decide +kernel
theorem dX5_close_86 : decode cX5_close 86 = .ok (.iconst 2, 1) := by decide +kernel
theorem dX5_close_87 : decode cX5_close 87 = .ok (.invokestatic 160, 3) := by decide +kernel
theorem dX5_close_90 : decode cX5_close 90 = .ok (.laload, 1) := by decide +kernel
theorem dX5_close_91 : decode cX5_close 91 = .ok (.lstore 4, 2) := by decide +kernel
theorem dX5_close_93 : decode cX5_close 93 = .ok (.lload 4, 2) := by decide +kernel
theorem dX5_close_95 : decode cX5_close 95 = .ok (.aload_n 0, 1) := by decide +kernel
theorem dX5_close_96 : decode cX5_close 96 = .ok (.iload_n 2, 1) := by decide +kernel
theorem dX5_close_97 : decode cX5_close 97 = .ok (.iconst 3, 1) := by decide +kernel
theorem dX5_close_98 : decode cX5_close 98 = .ok (.invokevirtual 41, 3) := by decide +kernel
theorem dX5_close_101 : decode cX5_close 101 = .ok (.invokestatic 108, 3) := by decide +kernel
theorem dX5_close_104 : decode cX5_close 104 = .ok (.lstore 6, 2) := by decide +kernel
theorem dX5_close_106 : decode cX5_close 106 = .ok (.aload_n 0, 1) := by decide +kernel
theorem dX5_close_107 : decode cX5_close 107 = .ok (.iload_n 2, 1) := by decide +kernel
theorem dX5_close_108 : decode cX5_close 108 = .ok (.iconst 3, 1) := by decide +kernel
theorem dX5_close_109 : decode cX5_close 109 = .ok (.lload 6, 2) := by decide +kernel
theorem dX5_close_111 : decode cX5_close 111 = .ok (.lneg, 1) := by decide +kernel
theorem dX5_close_112 : decode cX5_close 112 = .ok (.invokevirtual 76, 3) := by decide +kernel
theorem dX5_close_115 : decode cX5_close 115 = .ok (.aload_n 0, 1) := by decide +kernel
theorem dX5_close_116 : decode cX5_close 116 = .ok (.getfield 23, 3) := by decide +kernel
theorem dX5_close_119 : decode cX5_close 119 = .ok (.iload_n 2, 1) := by decide +kernel
theorem dX5_close_120 : decode cX5_close 120 = .ok (.iload_n 3, 1) := by decide +kernel
theorem dX5_close_121 : decode cX5_close 121 = .ok (.iconst 4, 1) := by decide +kernel
theorem dX5_close_122 : decode cX5_close 122 = .ok (.invokestatic 160, 3) := by decide +kernel
theorem dX5_close_125 : decode cX5_close 125 = .ok (.lload 4, 2) := by decide +kernel
theorem dX5_close_127 : decode cX5_close 127 = .ok (.lload 6, 2) := by decide +kernel
theorem dX5_close_129 : decode cX5_close 129 = .ok (.lsub, 1) := by decide +kernel
theorem dX5_close_130 : decode cX5_close 130 = .ok (.lastore, 1) := by decide +kernel
theorem dX5_close_131 : decode cX5_close 131 = .ok (.iinc 3 1, 3) := by decide +kernel
theorem dX5_close_134 : decode cX5_close 134 = .ok (.goto (-67), 3) := by decide +kernel
theorem dX5_close_137 : decode cX5_close 137 = .ok (.lconst 0, 1) := by decide +kernel
theorem dX5_close_138 : decode cX5_close 138 = .ok (.lstore_n 3, 1) := by decide +kernel
theorem dX5_close_139 : decode cX5_close 139 = .ok (.iconst 0, 1) := by decide +kernel
theorem dX5_close_140 : decode cX5_close 140 = .ok (.istore 5, 2) := by decide +kernel
theorem dX5_close_142 : decode cX5_close 142 = .ok (.iload 5, 2) := by decide +kernel
theorem dX5_close_144 : decode cX5_close 144 = .ok (.bipush 60, 2) := by decide +kernel
theorem dX5_close_146 : decode cX5_close 146 = .ok (.if_icmp .ge 27, 3) := by decide +kernel
theorem dX5_close_149 : decode cX5_close 149 = .ok (.lload_n 3, 1) := by decide +kernel
theorem dX5_close_150 : decode cX5_close 150 = .ok (.aload_n 0, 1) := by decide +kernel
theorem dX5_close_151 : decode cX5_close 151 = .ok (.iload_n 2, 1) := by decide +kernel
theorem dX5_close_152 : decode cX5_close 152 = .ok (.iload 5, 2) := by decide +kernel
theorem dX5_close_154 : decode cX5_close 154 = .ok (.invokevirtual 170, 3) := by decide +kernel
theorem dX5_close_157 : decode cX5_close 157 = .ok (.ifCond .eq 7, 3) := by decide +kernel
theorem dX5_close_160 : decode cX5_close 160 = .ok (.lconst 1, 1) := by decide +kernel
theorem dX5_close_161 : decode cX5_close 161 = .ok (.goto 4, 3) := by decide +kernel
theorem dX5_close_164 : decode cX5_close 164 = .ok (.lconst 0, 1) := by decide +kernel
theorem dX5_close_165 : decode cX5_close 165 = .ok (.ladd, 1) := by decide +kernel
theorem dX5_close_166 : decode cX5_close 166 = .ok (.lstore_n 3, 1) := by decide +kernel
theorem dX5_close_167 : decode cX5_close 167 = .ok (.iinc 5 1, 3) := by decide +kernel
theorem dX5_close_170 : decode cX5_close 170 = .ok (.goto (-28), 3) := by decide +kernel
theorem dX5_close_173 : decode cX5_close 173 = .ok (.lload_n 3, 1) := by decide +kernel
theorem dX5_close_174 : decode cX5_close 174 = .ok (.lconst 0, 1) := by decide +kernel
theorem dX5_close_175 : decode cX5_close 175 = .ok (.lcmp, 1) := by decide +kernel
theorem dX5_close_176 : decode cX5_close 176 = .ok (.ifCond .ne 7, 3) := by decide +kernel
theorem dX5_close_179 : decode cX5_close 179 = .ok (.lconst 0, 1) := by decide +kernel
theorem dX5_close_180 : decode cX5_close 180 = .ok (.goto 11, 3) := by decide +kernel
theorem dX5_close_183 : decode cX5_close 183 = .ok (.aload_n 0, 1) := by decide +kernel
theorem dX5_close_184 : decode cX5_close 184 = .ok (.iload_n 2, 1) := by decide +kernel
theorem dX5_close_185 : decode cX5_close 185 = .ok (.iconst 3, 1) := by decide +kernel
theorem dX5_close_186 : decode cX5_close 186 = .ok (.invokevirtual 41, 3) := by decide +kernel
theorem dX5_close_189 : decode cX5_close 189 = .ok (.lload_n 3, 1) := by decide +kernel
theorem dX5_close_190 : decode cX5_close 190 = .ok (.lrem, 1) := by decide +kernel
theorem dX5_close_191 : decode cX5_close 191 = .ok (.lstore 5, 2) := by decide +kernel
theorem dX5_close_193 : decode cX5_close 193 = .ok (.lload_n 3, 1) := by decide +kernel
theorem dX5_close_194 : decode cX5_close 194 = .ok (.lconst 0, 1) := by decide +kernel
theorem dX5_close_195 : decode cX5_close 195 = .ok (.lcmp, 1) := by decide +kernel
theorem dX5_close_196 : decode cX5_close 196 = .ok (.ifCond .ne 7, 3) := by decide +kernel
theorem dX5_close_199 : decode cX5_close 199 = .ok (.lconst 0, 1) := by decide +kernel
theorem dX5_close_200 : decode cX5_close 200 = .ok (.goto 11, 3) := by decide +kernel
theorem dX5_close_203 : decode cX5_close 203 = .ok (.aload_n 0, 1) := by decide +kernel
theorem dX5_close_204 : decode cX5_close 204 = .ok (.iload_n 2, 1) := by decide +kernel
theorem dX5_close_205 : decode cX5_close 205 = .ok (.iconst 3, 1) := by decide +kernel
theorem dX5_close_206 : decode cX5_close 206 = .ok (.invokevirtual 41, 3) := by decide +kernel
theorem dX5_close_209 : decode cX5_close 209 = .ok (.lload_n 3, 1) := by decide +kernel
theorem dX5_close_210 : decode cX5_close 210 = .ok (.ldiv, 1) := by decide +kernel
theorem dX5_close_211 : decode cX5_close 211 = .ok (.lstore 7, 2) := by decide +kernel
theorem dX5_close_213 : decode cX5_close 213 = .ok (.iconst 0, 1) := by decide +kernel
theorem dX5_close_214 : decode cX5_close 214 = .ok (.istore 9, 2) := by decide +kernel
theorem dX5_close_216 : decode cX5_close 216 = .ok (.iload 9, 2) := by decide +kernel
theorem dX5_close_218 : decode cX5_close 218 = .ok (.bipush 60, 2) := by decide +kernel
theorem dX5_close_220 : decode cX5_close 220 = .ok (.if_icmp .ge 67, 3) := by decide +kernel
theorem dX5_close_223 : decode cX5_close 223 = .ok (.aload_n 0, 1) := by decide +kernel
theorem dX5_close_224 : decode cX5_close 224 = .ok (.iload_n 2, 1) := by decide +kernel
theorem dX5_close_225 : decode cX5_close 225 = .ok (.iload 9, 2) := by decide +kernel
theorem dX5_close_227 : decode cX5_close 227 = .ok (.invokevirtual 170, 3) := by decide +kernel
theorem dX5_close_230 : decode cX5_close 230 = .ok (.ifCond .ne 6, 3) := by decide +kernel
theorem dX5_close_233 : decode cX5_close 233 = .ok (.goto 48, 3) := by decide +kernel
theorem dX5_close_236 : decode cX5_close 236 = .ok (.aload_n 0, 1) := by decide +kernel
theorem dX5_close_237 : decode cX5_close 237 = .ok (.iload_n 2, 1) := by decide +kernel
theorem dX5_close_238 : decode cX5_close 238 = .ok (.iload 9, 2) := by decide +kernel
theorem dX5_close_240 : decode cX5_close 240 = .ok (.bipush 11, 2) := by decide +kernel
theorem dX5_close_242 : decode cX5_close 242 = .ok (.invokestatic 37, 3) := by decide +kernel
theorem dX5_close_245 : decode cX5_close 245 = .ok (.lload 7, 2) := by decide +kernel
theorem dX5_close_247 : decode cX5_close 247 = .ok (.lload 5, 2) := by decide +kernel
theorem dX5_close_249 : decode cX5_close 249 = .ok (.lconst 0, 1) := by decide +kernel
theorem dX5_close_250 : decode cX5_close 250 = .ok (.lcmp, 1) := by decide +kernel
theorem dX5_close_251 : decode cX5_close 251 = .ok (.ifCond .le 7, 3) := by decide +kernel
theorem dX5_close_254 : decode cX5_close 254 = .ok (.iconst 1, 1) := by decide +kernel
theorem dX5_close_255 : decode cX5_close 255 = .ok (.goto 4, 3) := by decide +kernel
theorem dX5_close_258 : decode cX5_close 258 = .ok (.iconst 0, 1) := by decide +kernel
theorem dX5_close_259 : decode cX5_close 259 = .ok (.i2l, 1) := by decide +kernel
theorem dX5_close_260 : decode cX5_close 260 = .ok (.ladd, 1) := by decide +kernel
theorem dX5_close_261 : decode cX5_close 261 = .ok (.invokevirtual 76, 3) := by decide +kernel
theorem dX5_close_264 : decode cX5_close 264 = .ok (.lload 5, 2) := by decide +kernel
theorem dX5_close_266 : decode cX5_close 266 = .ok (.lload 5, 2) := by decide +kernel
theorem dX5_close_268 : decode cX5_close 268 = .ok (.lconst 0, 1) := by decide +kernel
theorem dX5_close_269 : decode cX5_close 269 = .ok (.lcmp, 1) := by decide +kernel
theorem dX5_close_270 : decode cX5_close 270 = .ok (.ifCond .le 7, 3) := by decide +kernel
theorem dX5_close_273 : decode cX5_close 273 = .ok (.lconst 1, 1) := by decide +kernel
theorem dX5_close_274 : decode cX5_close 274 = .ok (.goto 4, 3) := by decide +kernel
theorem dX5_close_277 : decode cX5_close 277 = .ok (.lconst 0, 1) := by decide +kernel
theorem dX5_close_278 : decode cX5_close 278 = .ok (.lsub, 1) := by decide +kernel
theorem dX5_close_279 : decode cX5_close 279 = .ok (.lstore 5, 2) := by decide +kernel
theorem dX5_close_281 : decode cX5_close 281 = .ok (.iinc 9 1, 3) := by decide +kernel
theorem dX5_close_284 : decode cX5_close 284 = .ok (.goto (-68), 3) := by decide +kernel
theorem dX5_close_287 : decode cX5_close 287 = .ok (.lload_n 3, 1) := by decide +kernel
theorem dX5_close_288 : decode cX5_close 288 = .ok (.lconst 0, 1) := by decide +kernel
theorem dX5_close_289 : decode cX5_close 289 = .ok (.lcmp, 1) := by decide +kernel
theorem dX5_close_290 : decode cX5_close 290 = .ok (.ifCond .le 10, 3) := by decide +kernel
theorem dX5_close_293 : decode cX5_close 293 = .ok (.aload_n 0, 1) := by decide +kernel
theorem dX5_close_294 : decode cX5_close 294 = .ok (.iload_n 2, 1) := by decide +kernel
theorem dX5_close_295 : decode cX5_close 295 = .ok (.iconst 3, 1) := by decide +kernel
theorem dX5_close_296 : decode cX5_close 296 = .ok (.lconst 0, 1) := by decide +kernel
theorem dX5_close_297 : decode cX5_close 297 = .ok (.invokevirtual 62, 3) := by decide +kernel
theorem dX5_close_300 : decode cX5_close 300 = .ok (.aload_n 0, 1) := by decide +kernel
theorem dX5_close_301 : decode cX5_close 301 = .ok (.iload_n 2, 1) := by decide +kernel
theorem dX5_close_302 : decode cX5_close 302 = .ok (.iconst 4, 1) := by decide +kernel
theorem dX5_close_303 : decode cX5_close 303 = .ok (.ldc2_w 45, 3) := by decide +kernel
theorem dX5_close_306 : decode cX5_close 306 = .ok (.invokevirtual 62, 3) := by decide +kernel
theorem dX5_close_309 : decode cX5_close 309 = .ok (.iconst 0, 1) := by decide +kernel
theorem dX5_close_310 : decode cX5_close 310 = .ok (.ireturn, 1) := by decide +kernel
theorem dX5_fair_0 : decode cX5_fair 0 = .ok (.aload_n 0, 1) := by decide +kernel
theorem dX5_fair_1 : decode cX5_fair 1 = .ok (.iload_n 1, 1) := by decide +kernel
theorem dX5_fair_2 : decode cX5_fair 2 = .ok (.invokevirtual 68, 3) := by decide +kernel
theorem dX5_fair_5 : decode cX5_fair 5 = .ok (.ifCond .eq 37, 3) := by decide +kernel
theorem dX5_fair_8 : decode cX5_fair 8 = .ok (.aload_n 0, 1) := by decide +kernel
theorem dX5_fair_9 : decode cX5_fair 9 = .ok (.iload_n 1, 1) := by decide +kernel
theorem dX5_fair_10 : decode cX5_fair 10 = .ok (.iconst 0, 1) := by decide +kernel
theorem dX5_fair_11 : decode cX5_fair 11 = .ok (.invokevirtual 41, 3) := by decide +kernel
theorem dX5_fair_14 : decode cX5_fair 14 = .ok (.lconst 0, 1) := by decide +kernel
theorem dX5_fair_15 : decode cX5_fair 15 = .ok (.lcmp, 1) := by decide +kernel
theorem dX5_fair_16 : decode cX5_fair 16 = .ok (.ifCond .ne 26, 3) := by decide +kernel
theorem dX5_fair_19 : decode cX5_fair 19 = .ok (.aload_n 0, 1) := by decide +kernel
theorem dX5_fair_20 : decode cX5_fair 20 = .ok (.iload_n 1, 1) := by decide +kernel
theorem dX5_fair_21 : decode cX5_fair 21 = .ok (.iconst 4, 1) := by decide +kernel
theorem dX5_fair_22 : decode cX5_fair 22 = .ok (.invokevirtual 41, 3) := by decide +kernel
theorem dX5_fair_25 : decode cX5_fair 25 = .ok (.lconst 0, 1) := by decide +kernel
theorem dX5_fair_26 : decode cX5_fair 26 = .ok (.lcmp, 1) := by decide +kernel
theorem dX5_fair_27 : decode cX5_fair 27 = .ok (.ifCond .eq 15, 3) := by decide +kernel
theorem dX5_fair_30 : decode cX5_fair 30 = .ok (.aload_n 0, 1) := by decide +kernel
theorem dX5_fair_31 : decode cX5_fair 31 = .ok (.iload_n 1, 1) := by decide +kernel
theorem dX5_fair_32 : decode cX5_fair 32 = .ok (.bipush 8, 2) := by decide +kernel
theorem dX5_fair_34 : decode cX5_fair 34 = .ok (.invokevirtual 41, 3) := by decide +kernel
theorem dX5_fair_37 : decode cX5_fair 37 = .ok (.lconst 0, 1) := by decide +kernel
theorem dX5_fair_38 : decode cX5_fair 38 = .ok (.lcmp, 1) := by decide +kernel
theorem dX5_fair_39 : decode cX5_fair 39 = .ok (.ifCond .le 5, 3) := by decide +kernel
theorem dX5_fair_42 : decode cX5_fair 42 = .ok (.iconst (-1), 1) := by decide +kernel
theorem dX5_fair_43 : decode cX5_fair 43 = .ok (.ireturn, 1) := by decide +kernel
theorem dX5_fair_44 : decode cX5_fair 44 = .ok (.iconst 0, 1) := by decide +kernel
theorem dX5_fair_45 : decode cX5_fair 45 = .ok (.istore_n 2, 1) := by decide +kernel
theorem dX5_fair_46 : decode cX5_fair 46 = .ok (.iload_n 2, 1) := by decide +kernel
theorem dX5_fair_47 : decode cX5_fair 47 = .ok (.bipush 60, 2) := by decide +kernel
theorem dX5_fair_49 : decode cX5_fair 49 = .ok (.if_icmp .ge 55, 3) := by decide +kernel
theorem dX5_fair_52 : decode cX5_fair 52 = .ok (.aload_n 0, 1) := by decide +kernel
theorem dX5_fair_53 : decode cX5_fair 53 = .ok (.iload_n 1, 1) := by decide +kernel
theorem dX5_fair_54 : decode cX5_fair 54 = .ok (.iload_n 2, 1) := by decide +kernel
theorem dX5_fair_55 : decode cX5_fair 55 = .ok (.invokevirtual 170, 3) := by decide +kernel
theorem dX5_fair_58 : decode cX5_fair 58 = .ok (.ifCond .eq 40, 3) := by decide +kernel
theorem dX5_fair_61 : decode cX5_fair 61 = .ok (.aload_n 0, 1) := by decide +kernel
theorem dX5_fair_62 : decode cX5_fair 62 = .ok (.iload_n 1, 1) := by decide +kernel
theorem dX5_fair_63 : decode cX5_fair 63 = .ok (.iload_n 2, 1) := by decide +kernel
theorem dX5_fair_64 : decode cX5_fair 64 = .ok (.iconst 3, 1) := by decide +kernel
theorem dX5_fair_65 : decode cX5_fair 65 = .ok (.invokestatic 37, 3) := by decide +kernel
theorem dX5_fair_68 : decode cX5_fair 68 = .ok (.invokevirtual 41, 3) := by decide +kernel
theorem dX5_fair_71 : decode cX5_fair 71 = .ok (.lconst 1, 1) := by decide +kernel
theorem dX5_fair_72 : decode cX5_fair 72 = .ok (.lcmp, 1) := by decide +kernel
theorem dX5_fair_73 : decode cX5_fair 73 = .ok (.ifCond .ne 25, 3) := by decide +kernel
theorem dX5_fair_76 : decode cX5_fair 76 = .ok (.aload_n 0, 1) := by decide +kernel
theorem dX5_fair_77 : decode cX5_fair 77 = .ok (.iload_n 1, 1) := by decide +kernel
theorem dX5_fair_78 : decode cX5_fair 78 = .ok (.iload_n 2, 1) := by decide +kernel
theorem dX5_fair_79 : decode cX5_fair 79 = .ok (.bipush 9, 2) := by decide +kernel
theorem dX5_fair_81 : decode cX5_fair 81 = .ok (.invokestatic 37, 3) := by decide +kernel
theorem dX5_fair_84 : decode cX5_fair 84 = .ok (.invokevirtual 41, 3) := by decide +kernel
theorem dX5_fair_87 : decode cX5_fair 87 = .ok (.aload_n 0, 1) := by decide +kernel
theorem dX5_fair_88 : decode cX5_fair 88 = .ok (.iload_n 1, 1) := by decide +kernel
theorem dX5_fair_89 : decode cX5_fair 89 = .ok (.invokevirtual 98, 3) := by decide +kernel
theorem dX5_fair_92 : decode cX5_fair 92 = .ok (.lcmp, 1) := by decide +kernel
theorem dX5_fair_93 : decode cX5_fair 93 = .ok (.ifCond .eq 5, 3) := by decide +kernel
theorem dX5_fair_96 : decode cX5_fair 96 = .ok (.iconst 0, 1) := by decide +kernel
theorem dX5_fair_97 : decode cX5_fair 97 = .ok (.ireturn, 1) := by decide +kernel
theorem dX5_fair_98 : decode cX5_fair 98 = .ok (.iinc 2 1, 3) := by decide +kernel
theorem dX5_fair_101 : decode cX5_fair 101 = .ok (.goto (-55), 3) := by decide +kernel
theorem dX5_fair_104 : decode cX5_fair 104 = .ok (.iconst 1, 1) := by decide +kernel
theorem dX5_fair_105 : decode cX5_fair 105 = .ok (.ireturn, 1) := by decide +kernel
theorem dX5_latestCopy_0 : decode cX5_latestCopy 0 = .ok (.aload_n 0, 1) := by decide +kernel
theorem dX5_latestCopy_1 : decode cX5_latestCopy 1 = .ok (.getfield 105, 3) := by decide +kernel
theorem dX5_latestCopy_4 : decode cX5_latestCopy 4 = .ok (.iconst 1, 1) := by decide +kernel
theorem dX5_latestCopy_5 : decode cX5_latestCopy 5 = .ok (.isub, 1) := by decide +kernel
theorem dX5_latestCopy_6 : decode cX5_latestCopy 6 = .ok (.istore_n 2, 1) := by decide +kernel
theorem dX5_latestCopy_7 : decode cX5_latestCopy 7 = .ok (.iload_n 2, 1) := by decide +kernel
theorem dX5_latestCopy_8 : decode cX5_latestCopy 8 = .ok (.ifCond .lt 19, 3) := by decide +kernel
theorem dX5_latestCopy_11 : decode cX5_latestCopy 11 = .ok (.aload_n 0, 1) := by decide +kernel
theorem dX5_latestCopy_12 : decode cX5_latestCopy 12 = .ok (.getfield 18, 3) := by decide +kernel
theorem dX5_latestCopy_15 : decode cX5_latestCopy 15 = .ok (.iload_n 2, 1) := by decide +kernel
theorem dX5_latestCopy_16 : decode cX5_latestCopy 16 = .ok (.iaload, 1) := by decide +kernel
theorem dX5_latestCopy_17 : decode cX5_latestCopy 17 = .ok (.iload_n 1, 1) := by decide +kernel
theorem dX5_latestCopy_18 : decode cX5_latestCopy 18 = .ok (.if_icmp .eq 9, 3) := by decide +kernel
theorem dX5_latestCopy_21 : decode cX5_latestCopy 21 = .ok (.iinc 2 (-1), 3) := by decide +kernel
theorem dX5_latestCopy_24 : decode cX5_latestCopy 24 = .ok (.goto (-17), 3) := by decide +kernel
theorem dX5_latestCopy_27 : decode cX5_latestCopy 27 = .ok (.iload_n 2, 1) := by decide +kernel
theorem dX5_latestCopy_28 : decode cX5_latestCopy 28 = .ok (.ireturn, 1) := by decide +kernel
theorem dX5_copiesOf_0 : decode cX5_copiesOf 0 = .ok (.iconst 0, 1) := by decide +kernel
theorem dX5_copiesOf_1 : decode cX5_copiesOf 1 = .ok (.istore_n 2, 1) := by decide +kernel
theorem dX5_copiesOf_2 : decode cX5_copiesOf 2 = .ok (.iconst 0, 1) := by decide +kernel
theorem dX5_copiesOf_3 : decode cX5_copiesOf 3 = .ok (.istore_n 3, 1) := by decide +kernel
theorem dX5_copiesOf_4 : decode cX5_copiesOf 4 = .ok (.iload_n 3, 1) := by decide +kernel
theorem dX5_copiesOf_5 : decode cX5_copiesOf 5 = .ok (.aload_n 0, 1) := by decide +kernel
theorem dX5_copiesOf_6 : decode cX5_copiesOf 6 = .ok (.getfield 105, 3) := by decide +kernel
theorem dX5_copiesOf_9 : decode cX5_copiesOf 9 = .ok (.if_icmp .ge 27, 3) := by decide +kernel
theorem dX5_copiesOf_12 : decode cX5_copiesOf 12 = .ok (.iload_n 2, 1) := by decide +kernel
theorem dX5_copiesOf_13 : decode cX5_copiesOf 13 = .ok (.aload_n 0, 1) := by decide +kernel
theorem dX5_copiesOf_14 : decode cX5_copiesOf 14 = .ok (.getfield 18, 3) := by decide +kernel
theorem dX5_copiesOf_17 : decode cX5_copiesOf 17 = .ok (.iload_n 3, 1) := by decide +kernel
theorem dX5_copiesOf_18 : decode cX5_copiesOf 18 = .ok (.iaload, 1) := by decide +kernel
theorem dX5_copiesOf_19 : decode cX5_copiesOf 19 = .ok (.iload_n 1, 1) := by decide +kernel
theorem dX5_copiesOf_20 : decode cX5_copiesOf 20 = .ok (.if_icmp .ne 7, 3) := by decide +kernel
theorem dX5_copiesOf_23 : decode cX5_copiesOf 23 = .ok (.iconst 1, 1) := by decide +kernel
theorem dX5_copiesOf_24 : decode cX5_copiesOf 24 = .ok (.goto 4, 3) := by decide +kernel
theorem dX5_copiesOf_27 : decode cX5_copiesOf 27 = .ok (.iconst 0, 1) := by decide +kernel
theorem dX5_copiesOf_28 : decode cX5_copiesOf 28 = .ok (.iadd, 1) := by decide +kernel
theorem dX5_copiesOf_29 : decode cX5_copiesOf 29 = .ok (.istore_n 2, 1) := by decide +kernel
theorem dX5_copiesOf_30 : decode cX5_copiesOf 30 = .ok (.iinc 3 1, 3) := by decide +kernel
theorem dX5_copiesOf_33 : decode cX5_copiesOf 33 = .ok (.goto (-29), 3) := by decide +kernel
theorem dX5_copiesOf_36 : decode cX5_copiesOf 36 = .ok (.iload_n 2, 1) := by decide +kernel
theorem dX5_copiesOf_37 : decode cX5_copiesOf 37 = .ok (.ireturn, 1) := by decide +kernel
theorem dX5_undo_0 : decode cX5_undo 0 = .ok (.aload_n 0, 1) := by decide +kernel
theorem dX5_undo_1 : decode cX5_undo 1 = .ok (.iload_n 1, 1) := by decide +kernel
theorem dX5_undo_2 : decode cX5_undo 2 = .ok (.invokevirtual 68, 3) := by decide +kernel
theorem dX5_undo_5 : decode cX5_undo 5 = .ok (.ifCond .eq 11, 3) := by decide +kernel
theorem dX5_undo_8 : decode cX5_undo 8 = .ok (.aload_n 0, 1) := by decide +kernel
theorem dX5_undo_9 : decode cX5_undo 9 = .ok (.iload_n 1, 1) := by decide +kernel
theorem dX5_undo_10 : decode cX5_undo 10 = .ok (.invokevirtual 173, 3) := by decide +kernel
theorem dX5_undo_13 : decode cX5_undo 13 = .ok (.goto 4, 3) := by decide +kernel
theorem dX5_undo_16 : decode cX5_undo 16 = .ok (.iconst (-1), 1) := by decide +kernel
theorem dX5_undo_17 : decode cX5_undo 17 = .ok (.istore_n 2, 1) := by decide +kernel
theorem dX5_undo_18 : decode cX5_undo 18 = .ok (.iload_n 2, 1) := by decide +kernel
theorem dX5_undo_19 : decode cX5_undo 19 = .ok (.ifCond .ge 5, 3) := by decide +kernel
theorem dX5_undo_22 : decode cX5_undo 22 = .ok (.iconst (-1), 1) := by decide +kernel
theorem dX5_undo_23 : decode cX5_undo 23 = .ok (.ireturn, 1) := by decide +kernel
theorem dX5_undo_24 : decode cX5_undo 24 = .ok (.iconst 0, 1) := by decide +kernel
theorem dX5_undo_25 : decode cX5_undo 25 = .ok (.istore_n 3, 1) := by decide +kernel
theorem dX5_undo_26 : decode cX5_undo 26 = .ok (.iload_n 3, 1) := by decide +kernel
theorem dX5_undo_27 : decode cX5_undo 27 = .ok (.sipush 1393, 3) := by decide +kernel
theorem dX5_undo_30 : decode cX5_undo 30 = .ok (.if_icmp .ge 27, 3) := by decide +kernel
theorem dX5_undo_33 : decode cX5_undo 33 = .ok (.aload_n 0, 1) := by decide +kernel
theorem dX5_undo_34 : decode cX5_undo 34 = .ok (.iload_n 1, 1) := by decide +kernel
theorem dX5_undo_35 : decode cX5_undo 35 = .ok (.iload_n 3, 1) := by decide +kernel
theorem dX5_undo_36 : decode cX5_undo 36 = .ok (.aload_n 0, 1) := by decide +kernel
theorem dX5_undo_37 : decode cX5_undo 37 = .ok (.getfield 15, 3) := by decide +kernel
theorem dX5_undo_40 : decode cX5_undo 40 = .ok (.sipush 1393, 3) := by decide +kernel
theorem dX5_undo_43 : decode cX5_undo 43 = .ok (.iload_n 2, 1) := by decide +kernel
theorem dX5_undo_44 : decode cX5_undo 44 = .ok (.imul, 1) := by decide +kernel
theorem dX5_undo_45 : decode cX5_undo 45 = .ok (.iload_n 3, 1) := by decide +kernel
theorem dX5_undo_46 : decode cX5_undo 46 = .ok (.iadd, 1) := by decide +kernel
theorem dX5_undo_47 : decode cX5_undo 47 = .ok (.laload, 1) := by decide +kernel
theorem dX5_undo_48 : decode cX5_undo 48 = .ok (.invokevirtual 62, 3) := by decide +kernel
theorem dX5_undo_51 : decode cX5_undo 51 = .ok (.iinc 3 1, 3) := by decide +kernel
theorem dX5_undo_54 : decode cX5_undo 54 = .ok (.goto (-28), 3) := by decide +kernel
theorem dX5_undo_57 : decode cX5_undo 57 = .ok (.iconst 0, 1) := by decide +kernel
theorem dX5_undo_58 : decode cX5_undo 58 = .ok (.istore_n 3, 1) := by decide +kernel
theorem dX5_undo_59 : decode cX5_undo 59 = .ok (.iload_n 3, 1) := by decide +kernel
theorem dX5_undo_60 : decode cX5_undo 60 = .ok (.i2l, 1) := by decide +kernel
theorem dX5_undo_61 : decode cX5_undo 61 = .ok (.aload_n 0, 1) := by decide +kernel
theorem dX5_undo_62 : decode cX5_undo 62 = .ok (.iload_n 1, 1) := by decide +kernel
theorem dX5_undo_63 : decode cX5_undo 63 = .ok (.bipush 8, 2) := by decide +kernel
theorem dX5_undo_65 : decode cX5_undo 65 = .ok (.invokevirtual 41, 3) := by decide +kernel
theorem dX5_undo_68 : decode cX5_undo 68 = .ok (.lcmp, 1) := by decide +kernel
theorem dX5_undo_69 : decode cX5_undo 69 = .ok (.ifCond .ge 21, 3) := by decide +kernel
theorem dX5_undo_72 : decode cX5_undo 72 = .ok (.aload_n 0, 1) := by decide +kernel
theorem dX5_undo_73 : decode cX5_undo 73 = .ok (.getfield 23, 3) := by decide +kernel
theorem dX5_undo_76 : decode cX5_undo 76 = .ok (.iload_n 1, 1) := by decide +kernel
theorem dX5_undo_77 : decode cX5_undo 77 = .ok (.iload_n 3, 1) := by decide +kernel
theorem dX5_undo_78 : decode cX5_undo 78 = .ok (.iconst 4, 1) := by decide +kernel
theorem dX5_undo_79 : decode cX5_undo 79 = .ok (.invokestatic 160, 3) := by decide +kernel
theorem dX5_undo_82 : decode cX5_undo 82 = .ok (.lconst 0, 1) := by decide +kernel
theorem dX5_undo_83 : decode cX5_undo 83 = .ok (.lastore, 1) := by decide +kernel
theorem dX5_undo_84 : decode cX5_undo 84 = .ok (.iinc 3 1, 3) := by decide +kernel
theorem dX5_undo_87 : decode cX5_undo 87 = .ok (.goto (-28), 3) := by decide +kernel
theorem dX5_undo_90 : decode cX5_undo 90 = .ok (.aload_n 0, 1) := by decide +kernel
theorem dX5_undo_91 : decode cX5_undo 91 = .ok (.dup, 1) := by decide +kernel
theorem dX5_undo_92 : decode cX5_undo 92 = .ok (.getfield 105, 3) := by decide +kernel
theorem dX5_undo_95 : decode cX5_undo 95 = .ok (.iconst 1, 1) := by decide +kernel
theorem dX5_undo_96 : decode cX5_undo 96 = .ok (.isub, 1) := by decide +kernel
theorem dX5_undo_97 : decode cX5_undo 97 = .ok (.putfield 105, 3) := by decide +kernel
theorem dX5_undo_100 : decode cX5_undo 100 = .ok (.iload_n 2, 1) := by decide +kernel
theorem dX5_undo_101 : decode cX5_undo 101 = .ok (.istore_n 3, 1) := by decide +kernel
theorem dX5_undo_102 : decode cX5_undo 102 = .ok (.iload_n 3, 1) := by decide +kernel
theorem dX5_undo_103 : decode cX5_undo 103 = .ok (.aload_n 0, 1) := by decide +kernel
theorem dX5_undo_104 : decode cX5_undo 104 = .ok (.getfield 105, 3) := by decide +kernel
theorem dX5_undo_107 : decode cX5_undo 107 = .ok (.if_icmp .ge 68, 3) := by decide +kernel
theorem dX5_undo_110 : decode cX5_undo 110 = .ok (.iconst 0, 1) := by decide +kernel
theorem dX5_undo_111 : decode cX5_undo 111 = .ok (.istore 4, 2) := by decide +kernel
theorem dX5_undo_113 : decode cX5_undo 113 = .ok (.iload 4, 2) := by decide +kernel
theorem dX5_undo_115 : decode cX5_undo 115 = .ok (.sipush 1393, 3) := by decide +kernel
theorem dX5_undo_118 : decode cX5_undo 118 = .ok (.if_icmp .ge 37, 3) := by decide +kernel
theorem dX5_undo_121 : decode cX5_undo 121 = .ok (.aload_n 0, 1) := by decide +kernel
theorem dX5_undo_122 : decode cX5_undo 122 = .ok (.getfield 15, 3) := by decide +kernel
theorem dX5_undo_125 : decode cX5_undo 125 = .ok (.sipush 1393, 3) := by decide +kernel
theorem dX5_undo_128 : decode cX5_undo 128 = .ok (.iload_n 3, 1) := by decide +kernel
theorem dX5_undo_129 : decode cX5_undo 129 = .ok (.imul, 1) := by decide +kernel
theorem dX5_undo_130 : decode cX5_undo 130 = .ok (.iload 4, 2) := by decide +kernel
theorem dX5_undo_132 : decode cX5_undo 132 = .ok (.iadd, 1) := by decide +kernel
theorem dX5_undo_133 : decode cX5_undo 133 = .ok (.aload_n 0, 1) := by decide +kernel
theorem dX5_undo_134 : decode cX5_undo 134 = .ok (.getfield 15, 3) := by decide +kernel
theorem dX5_undo_137 : decode cX5_undo 137 = .ok (.sipush 1393, 3) := by decide +kernel
theorem dX5_undo_140 : decode cX5_undo 140 = .ok (.iload_n 3, 1) := by decide +kernel
theorem dX5_undo_141 : decode cX5_undo 141 = .ok (.iconst 1, 1) := by decide +kernel
theorem dX5_undo_142 : decode cX5_undo 142 = .ok (.iadd, 1) := by decide +kernel
theorem dX5_undo_143 : decode cX5_undo 143 = .ok (.imul, 1) := by decide +kernel
theorem dX5_undo_144 : decode cX5_undo 144 = .ok (.iload 4, 2) := by decide +kernel
theorem dX5_undo_146 : decode cX5_undo 146 = .ok (.iadd, 1) := by decide +kernel
theorem dX5_undo_147 : decode cX5_undo 147 = .ok (.laload, 1) := by decide +kernel
theorem dX5_undo_148 : decode cX5_undo 148 = .ok (.lastore, 1) := by decide +kernel
theorem dX5_undo_149 : decode cX5_undo 149 = .ok (.iinc 4 1, 3) := by decide +kernel
theorem dX5_undo_152 : decode cX5_undo 152 = .ok (.goto (-39), 3) := by decide +kernel
theorem dX5_undo_155 : decode cX5_undo 155 = .ok (.aload_n 0, 1) := by decide +kernel
theorem dX5_undo_156 : decode cX5_undo 156 = .ok (.getfield 18, 3) := by decide +kernel
theorem dX5_undo_159 : decode cX5_undo 159 = .ok (.iload_n 3, 1) := by decide +kernel
theorem dX5_undo_160 : decode cX5_undo 160 = .ok (.aload_n 0, 1) := by decide +kernel
theorem dX5_undo_161 : decode cX5_undo 161 = .ok (.getfield 18, 3) := by decide +kernel
theorem dX5_undo_164 : decode cX5_undo 164 = .ok (.iload_n 3, 1) := by decide +kernel
theorem dX5_undo_165 : decode cX5_undo 165 = .ok (.iconst 1, 1) := by decide +kernel
theorem dX5_undo_166 : decode cX5_undo 166 = .ok (.iadd, 1) := by decide +kernel
theorem dX5_undo_167 : decode cX5_undo 167 = .ok (.iaload, 1) := by decide +kernel
theorem dX5_undo_168 : decode cX5_undo 168 = .ok (.iastore, 1) := by decide +kernel
theorem dX5_undo_169 : decode cX5_undo 169 = .ok (.iinc 3 1, 3) := by decide +kernel
theorem dX5_undo_172 : decode cX5_undo 172 = .ok (.goto (-70), 3) := by decide +kernel
theorem dX5_undo_175 : decode cX5_undo 175 = .ok (.aload_n 0, 1) := by decide +kernel
theorem dX5_undo_176 : decode cX5_undo 176 = .ok (.iload_n 1, 1) := by decide +kernel
theorem dX5_undo_177 : decode cX5_undo 177 = .ok (.iconst 5, 1) := by decide +kernel
theorem dX5_undo_178 : decode cX5_undo 178 = .ok (.invokevirtual 41, 3) := by decide +kernel
theorem dX5_undo_181 : decode cX5_undo 181 = .ok (.l2i, 1) := by decide +kernel
theorem dX5_undo_182 : decode cX5_undo 182 = .ok (.ireturn, 1) := by decide +kernel
theorem dX5_image_0 : decode cX5_image 0 = .ok (.aload_n 0, 1) := by decide +kernel
theorem dX5_image_1 : decode cX5_image 1 = .ok (.iload_n 1, 1) := by decide +kernel
theorem dX5_image_2 : decode cX5_image 2 = .ok (.invokevirtual 68, 3) := by decide +kernel
theorem dX5_image_5 : decode cX5_image 5 = .ok (.ifCond .eq 12, 3) := by decide +kernel
theorem dX5_image_8 : decode cX5_image 8 = .ok (.aload_n 0, 1) := by decide +kernel
theorem dX5_image_9 : decode cX5_image 9 = .ok (.getfield 29, 3) := by decide +kernel
theorem dX5_image_12 : decode cX5_image 12 = .ok (.bipush 40, 2) := by decide +kernel
theorem dX5_image_14 : decode cX5_image 14 = .ok (.if_icmp .ne 5, 3) := by decide +kernel
theorem dX5_image_17 : decode cX5_image 17 = .ok (.iconst (-1), 1) := by decide +kernel
theorem dX5_image_18 : decode cX5_image 18 = .ok (.ireturn, 1) := by decide +kernel
theorem dX5_image_19 : decode cX5_image 19 = .ok (.aload_n 0, 1) := by decide +kernel
theorem dX5_image_20 : decode cX5_image 20 = .ok (.getfield 29, 3) := by decide +kernel
theorem dX5_image_23 : decode cX5_image 23 = .ok (.istore_n 2, 1) := by decide +kernel
theorem dX5_image_24 : decode cX5_image 24 = .ok (.aload_n 0, 1) := by decide +kernel
theorem dX5_image_25 : decode cX5_image 25 = .ok (.dup, 1) := by decide +kernel
theorem dX5_image_26 : decode cX5_image 26 = .ok (.getfield 29, 3) := by decide +kernel
theorem dX5_image_29 : decode cX5_image 29 = .ok (.iconst 1, 1) := by decide +kernel
theorem dX5_image_30 : decode cX5_image 30 = .ok (.iadd, 1) := by decide +kernel
theorem dX5_image_31 : decode cX5_image 31 = .ok (.putfield 29, 3) := by decide +kernel
theorem dX5_image_34 : decode cX5_image 34 = .ok (.iconst 0, 1) := by decide +kernel
theorem dX5_image_35 : decode cX5_image 35 = .ok (.istore_n 3, 1) := by decide +kernel
theorem dX5_image_36 : decode cX5_image 36 = .ok (.iload_n 3, 1) := by decide +kernel
theorem dX5_image_37 : decode cX5_image 37 = .ok (.sipush 1393, 3) := by decide +kernel
theorem dX5_image_40 : decode cX5_image 40 = .ok (.if_icmp .ge 21, 3) := by decide +kernel
theorem dX5_image_43 : decode cX5_image 43 = .ok (.aload_n 0, 1) := by decide +kernel
theorem dX5_image_44 : decode cX5_image 44 = .ok (.iload_n 2, 1) := by decide +kernel
theorem dX5_image_45 : decode cX5_image 45 = .ok (.iload_n 3, 1) := by decide +kernel
theorem dX5_image_46 : decode cX5_image 46 = .ok (.aload_n 0, 1) := by decide +kernel
theorem dX5_image_47 : decode cX5_image 47 = .ok (.iload_n 1, 1) := by decide +kernel
theorem dX5_image_48 : decode cX5_image 48 = .ok (.iload_n 3, 1) := by decide +kernel
theorem dX5_image_49 : decode cX5_image 49 = .ok (.invokevirtual 41, 3) := by decide +kernel
theorem dX5_image_52 : decode cX5_image 52 = .ok (.invokevirtual 62, 3) := by decide +kernel
theorem dX5_image_55 : decode cX5_image 55 = .ok (.iinc 3 1, 3) := by decide +kernel
theorem dX5_image_58 : decode cX5_image 58 = .ok (.goto (-22), 3) := by decide +kernel
theorem dX5_image_61 : decode cX5_image 61 = .ok (.iconst 0, 1) := by decide +kernel
theorem dX5_image_62 : decode cX5_image 62 = .ok (.istore_n 3, 1) := by decide +kernel
theorem dX5_image_63 : decode cX5_image 63 = .ok (.iload_n 3, 1) := by decide +kernel
theorem dX5_image_64 : decode cX5_image 64 = .ok (.i2l, 1) := by decide +kernel
theorem dX5_image_65 : decode cX5_image 65 = .ok (.aload_n 0, 1) := by decide +kernel
theorem dX5_image_66 : decode cX5_image 66 = .ok (.iload_n 2, 1) := by decide +kernel
theorem dX5_image_67 : decode cX5_image 67 = .ok (.bipush 8, 2) := by decide +kernel
theorem dX5_image_69 : decode cX5_image 69 = .ok (.invokevirtual 41, 3) := by decide +kernel
theorem dX5_image_72 : decode cX5_image 72 = .ok (.lcmp, 1) := by decide +kernel
theorem dX5_image_73 : decode cX5_image 73 = .ok (.ifCond .ge 48, 3) := by decide +kernel
theorem dX5_image_76 : decode cX5_image 76 = .ok (.iconst 0, 1) := by decide +kernel
theorem dX5_image_77 : decode cX5_image 77 = .ok (.istore 4, 2) := by decide +kernel
theorem dX5_image_79 : decode cX5_image 79 = .ok (.iload 4, 2) := by decide +kernel
theorem dX5_image_81 : decode cX5_image 81 = .ok (.iconst 5, 1) := by decide +kernel
theorem dX5_image_82 : decode cX5_image 82 = .ok (.if_icmp .ge 33, 3) := by decide +kernel
theorem dX5_image_85 : decode cX5_image 85 = .ok (.aload_n 0, 1) := by decide +kernel
theorem dX5_image_86 : decode cX5_image 86 = .ok (.getfield 23, 3) := by decide +kernel
theorem dX5_image_89 : decode cX5_image 89 = .ok (.iload_n 2, 1) := by decide +kernel
theorem dX5_image_90 : decode cX5_image 90 = .ok (.iload_n 3, 1) := by decide +kernel
theorem dX5_image_91 : decode cX5_image 91 = .ok (.iload 4, 2) := by decide +kernel
theorem dX5_image_93 : decode cX5_image 93 = .ok (.invokestatic 160, 3) := by decide +kernel
theorem dX5_image_96 : decode cX5_image 96 = .ok (.aload_n 0, 1) := by decide +kernel
theorem dX5_image_97 : decode cX5_image 97 = .ok (.getfield 23, 3) := by decide +kernel
theorem dX5_image_100 : decode cX5_image 100 = .ok (.iload_n 1, 1) := by decide +kernel
theorem dX5_image_101 : decode cX5_image 101 = .ok (.iload_n 3, 1) := by decide +kernel
theorem dX5_image_102 : decode cX5_image 102 = .ok (.iload 4, 2) := by decide +kernel
theorem dX5_image_104 : decode cX5_image 104 = .ok (.invokestatic 160, 3) := by decide +kernel
theorem dX5_image_107 : decode cX5_image 107 = .ok (.laload, 1) := by decide +kernel
theorem dX5_image_108 : decode cX5_image 108 = .ok (.lastore, 1) := by decide +kernel
theorem dX5_image_109 : decode cX5_image 109 = .ok (.iinc 4 1, 3) := by decide +kernel
theorem dX5_image_112 : decode cX5_image 112 = .ok (.goto (-33), 3) := by decide +kernel
theorem dX5_image_115 : decode cX5_image 115 = .ok (.iinc 3 1, 3) := by decide +kernel
theorem dX5_image_118 : decode cX5_image 118 = .ok (.goto (-55), 3) := by decide +kernel
theorem dX5_image_121 : decode cX5_image 121 = .ok (.iload_n 2, 1) := by decide +kernel
theorem dX5_image_122 : decode cX5_image 122 = .ok (.ireturn, 1) := by decide +kernel
theorem dX5_tell_0 : decode cX5_tell 0 = .ok (.aload_n 0, 1) := by decide +kernel
theorem dX5_tell_1 : decode cX5_tell 1 = .ok (.getfield 176, 3) := by decide +kernel
theorem dX5_tell_4 : decode cX5_tell 4 = .ok (.sipush 180, 3) := by decide +kernel
theorem dX5_tell_7 : decode cX5_tell 7 = .ok (.if_icmp .ne 5, 3) := by decide +kernel
theorem dX5_tell_10 : decode cX5_tell 10 = .ok (.iconst (-1), 1) := by decide +kernel
theorem dX5_tell_11 : decode cX5_tell 11 = .ok (.ireturn, 1) := by decide +kernel
theorem dX5_tell_12 : decode cX5_tell 12 = .ok (.aload_n 0, 1) := by decide +kernel
theorem dX5_tell_13 : decode cX5_tell 13 = .ok (.getfield 26, 3) := by decide +kernel
theorem dX5_tell_16 : decode cX5_tell 16 = .ok (.aload_n 0, 1) := by decide +kernel
theorem dX5_tell_17 : decode cX5_tell 17 = .ok (.getfield 176, 3) := by decide +kernel
theorem dX5_tell_20 : decode cX5_tell 20 = .ok (.lload_n 1, 1) := by decide +kernel
theorem dX5_tell_21 : decode cX5_tell 21 = .ok (.lastore, 1) := by decide +kernel
theorem dX5_tell_22 : decode cX5_tell 22 = .ok (.aload_n 0, 1) := by decide +kernel
theorem dX5_tell_23 : decode cX5_tell 23 = .ok (.dup, 1) := by decide +kernel
theorem dX5_tell_24 : decode cX5_tell 24 = .ok (.getfield 176, 3) := by decide +kernel
theorem dX5_tell_27 : decode cX5_tell 27 = .ok (.iconst 1, 1) := by decide +kernel
theorem dX5_tell_28 : decode cX5_tell 28 = .ok (.iadd, 1) := by decide +kernel
theorem dX5_tell_29 : decode cX5_tell 29 = .ok (.putfield 176, 3) := by decide +kernel
theorem dX5_tell_32 : decode cX5_tell 32 = .ok (.aload_n 0, 1) := by decide +kernel
theorem dX5_tell_33 : decode cX5_tell 33 = .ok (.getfield 176, 3) := by decide +kernel
theorem dX5_tell_36 : decode cX5_tell 36 = .ok (.ireturn, 1) := by decide +kernel
theorem dX5_check_0 : decode cX5_check 0 = .ok (.aload_n 0, 1) := by decide +kernel
theorem dX5_check_1 : decode cX5_check 1 = .ok (.getfield 176, 3) := by decide +kernel
theorem dX5_check_4 : decode cX5_check 4 = .ok (.istore_n 2, 1) := by decide +kernel
theorem dX5_check_5 : decode cX5_check 5 = .ok (.aload_n 0, 1) := by decide +kernel
theorem dX5_check_6 : decode cX5_check 6 = .ok (.iconst 0, 1) := by decide +kernel
theorem dX5_check_7 : decode cX5_check 7 = .ok (.putfield 176, 3) := by decide +kernel
theorem dX5_check_10 : decode cX5_check 10 = .ok (.aload_n 0, 1) := by decide +kernel
theorem dX5_check_11 : decode cX5_check 11 = .ok (.iload_n 1, 1) := by decide +kernel
theorem dX5_check_12 : decode cX5_check 12 = .ok (.invokevirtual 68, 3) := by decide +kernel
theorem dX5_check_15 : decode cX5_check 15 = .ok (.ifCond .eq 19, 3) := by decide +kernel
theorem dX5_check_18 : decode cX5_check 18 = .ok (.iload_n 2, 1) := by decide +kernel
theorem dX5_check_19 : decode cX5_check 19 = .ok (.i2l, 1) := by decide +kernel
theorem dX5_check_20 : decode cX5_check 20 = .ok (.ldc2_w 93, 3) := by decide +kernel
theorem dX5_check_23 : decode cX5_check 23 = .ok (.aload_n 0, 1) := by decide +kernel
theorem dX5_check_24 : decode cX5_check 24 = .ok (.iload_n 1, 1) := by decide +kernel
theorem dX5_check_25 : decode cX5_check 25 = .ok (.iconst 5, 1) := by decide +kernel
theorem dX5_check_26 : decode cX5_check 26 = .ok (.invokevirtual 41, 3) := by decide +kernel
theorem dX5_check_29 : decode cX5_check 29 = .ok (.lmul, 1) := by decide +kernel
theorem dX5_check_30 : decode cX5_check 30 = .ok (.lcmp, 1) := by decide +kernel
theorem dX5_check_31 : decode cX5_check 31 = .ok (.ifCond .eq 6, 3) := by decide +kernel
theorem dX5_check_34 : decode cX5_check 34 = .ok (.bipush (-2), 2) := by decide +kernel
theorem dX5_check_36 : decode cX5_check 36 = .ok (.ireturn, 1) := by decide +kernel
theorem dX5_check_37 : decode cX5_check 37 = .ok (.iconst 0, 1) := by decide +kernel
theorem dX5_check_38 : decode cX5_check 38 = .ok (.istore_n 3, 1) := by decide +kernel
theorem dX5_check_39 : decode cX5_check 39 = .ok (.iload_n 3, 1) := by decide +kernel
theorem dX5_check_40 : decode cX5_check 40 = .ok (.i2l, 1) := by decide +kernel
theorem dX5_check_41 : decode cX5_check 41 = .ok (.aload_n 0, 1) := by decide +kernel
theorem dX5_check_42 : decode cX5_check 42 = .ok (.iload_n 1, 1) := by decide +kernel
theorem dX5_check_43 : decode cX5_check 43 = .ok (.iconst 5, 1) := by decide +kernel
theorem dX5_check_44 : decode cX5_check 44 = .ok (.invokevirtual 41, 3) := by decide +kernel
theorem dX5_check_47 : decode cX5_check 47 = .ok (.lcmp, 1) := by decide +kernel
theorem dX5_check_48 : decode cX5_check 48 = .ok (.ifCond .ge 56, 3) := by decide +kernel
theorem dX5_check_51 : decode cX5_check 51 = .ok (.iconst 0, 1) := by decide +kernel
theorem dX5_check_52 : decode cX5_check 52 = .ok (.istore 4, 2) := by decide +kernel
theorem dX5_check_54 : decode cX5_check 54 = .ok (.iload 4, 2) := by decide +kernel
theorem dX5_check_56 : decode cX5_check 56 = .ok (.iconst 3, 1) := by decide +kernel
theorem dX5_check_57 : decode cX5_check 57 = .ok (.if_icmp .ge 41, 3) := by decide +kernel
theorem dX5_check_60 : decode cX5_check 60 = .ok (.aload_n 0, 1) := by decide +kernel
theorem dX5_check_61 : decode cX5_check 61 = .ok (.getfield 26, 3) := by decide +kernel
theorem dX5_check_64 : decode cX5_check 64 = .ok (.iconst 3, 1) := by decide +kernel
theorem dX5_check_65 : decode cX5_check 65 = .ok (.iload_n 3, 1) := by decide +kernel
theorem dX5_check_66 : decode cX5_check 66 = .ok (.imul, 1) := by decide +kernel
theorem dX5_check_67 : decode cX5_check 67 = .ok (.iload 4, 2) := by decide +kernel
theorem dX5_check_69 : decode cX5_check 69 = .ok (.iadd, 1) := by decide +kernel
theorem dX5_check_70 : decode cX5_check 70 = .ok (.laload, 1) := by decide +kernel
theorem dX5_check_71 : decode cX5_check 71 = .ok (.aload_n 0, 1) := by decide +kernel
theorem dX5_check_72 : decode cX5_check 72 = .ok (.iload_n 1, 1) := by decide +kernel
theorem dX5_check_73 : decode cX5_check 73 = .ok (.sipush 1153, 3) := by decide +kernel
theorem dX5_check_76 : decode cX5_check 76 = .ok (.iconst 4, 1) := by decide +kernel
theorem dX5_check_77 : decode cX5_check 77 = .ok (.iload_n 3, 1) := by decide +kernel
theorem dX5_check_78 : decode cX5_check 78 = .ok (.imul, 1) := by decide +kernel
theorem dX5_check_79 : decode cX5_check 79 = .ok (.iadd, 1) := by decide +kernel
theorem dX5_check_80 : decode cX5_check 80 = .ok (.iload 4, 2) := by decide +kernel
theorem dX5_check_82 : decode cX5_check 82 = .ok (.iadd, 1) := by decide +kernel
theorem dX5_check_83 : decode cX5_check 83 = .ok (.invokevirtual 41, 3) := by decide +kernel
theorem dX5_check_86 : decode cX5_check 86 = .ok (.lcmp, 1) := by decide +kernel
theorem dX5_check_87 : decode cX5_check 87 = .ok (.ifCond .eq 5, 3) := by decide +kernel
theorem dX5_check_90 : decode cX5_check 90 = .ok (.iload_n 3, 1) := by decide +kernel
theorem dX5_check_91 : decode cX5_check 91 = .ok (.ireturn, 1) := by decide +kernel
theorem dX5_check_92 : decode cX5_check 92 = .ok (.iinc 4 1, 3) := by decide +kernel
theorem dX5_check_95 : decode cX5_check 95 = .ok (.goto (-41), 3) := by decide +kernel
theorem dX5_check_98 : decode cX5_check 98 = .ok (.iinc 3 1, 3) := by decide +kernel
theorem dX5_check_101 : decode cX5_check 101 = .ok (.goto (-62), 3) := by decide +kernel
theorem dX5_check_104 : decode cX5_check 104 = .ok (.iconst (-1), 1) := by decide +kernel
theorem dX5_check_105 : decode cX5_check 105 = .ok (.ireturn, 1) := by decide +kernel
theorem dX5_look_0 : decode cX5_look 0 = .ok (.aload_n 0, 1) := by decide +kernel
theorem dX5_look_1 : decode cX5_look 1 = .ok (.iload_n 1, 1) := by decide +kernel
theorem dX5_look_2 : decode cX5_look 2 = .ok (.invokevirtual 68, 3) := by decide +kernel
theorem dX5_look_5 : decode cX5_look 5 = .ok (.ifCond .eq 20, 3) := by decide +kernel
theorem dX5_look_8 : decode cX5_look 8 = .ok (.iload_n 2, 1) := by decide +kernel
theorem dX5_look_9 : decode cX5_look 9 = .ok (.invokestatic 33, 3) := by decide +kernel
theorem dX5_look_12 : decode cX5_look 12 = .ok (.ifCond .eq 13, 3) := by decide +kernel
theorem dX5_look_15 : decode cX5_look 15 = .ok (.iload_n 3, 1) := by decide +kernel
theorem dX5_look_16 : decode cX5_look 16 = .ok (.ifCond .lt 9, 3) := by decide +kernel
theorem dX5_look_19 : decode cX5_look 19 = .ok (.iload_n 3, 1) := by decide +kernel
theorem dX5_look_20 : decode cX5_look 20 = .ok (.bipush 11, 2) := by decide +kernel
theorem dX5_look_22 : decode cX5_look 22 = .ok (.if_icmp .le 7, 3) := by decide +kernel
theorem dX5_look_25 : decode cX5_look 25 = .ok (.ldc2_w 66, 3) := by decide +kernel
theorem dX5_look_28 : decode cX5_look 28 = .ok (.lreturn, 1) := by decide +kernel
theorem dX5_look_29 : decode cX5_look 29 = .ok (.iload_n 3, 1) := by decide +kernel
theorem dX5_look_30 : decode cX5_look 30 = .ok (.ifCond .le 22, 3) := by decide +kernel
theorem dX5_look_33 : decode cX5_look 33 = .ok (.iload_n 3, 1) := by decide +kernel
theorem dX5_look_34 : decode cX5_look 34 = .ok (.bipush 11, 2) := by decide +kernel
theorem dX5_look_36 : decode cX5_look 36 = .ok (.if_icmp .ge 16, 3) := by decide +kernel
theorem dX5_look_39 : decode cX5_look 39 = .ok (.aload_n 0, 1) := by decide +kernel
theorem dX5_look_40 : decode cX5_look 40 = .ok (.iload_n 1, 1) := by decide +kernel
theorem dX5_look_41 : decode cX5_look 41 = .ok (.iload_n 2, 1) := by decide +kernel
theorem dX5_look_42 : decode cX5_look 42 = .ok (.invokevirtual 51, 3) := by decide +kernel
theorem dX5_look_45 : decode cX5_look 45 = .ok (.ifCond .ne 7, 3) := by decide +kernel
theorem dX5_look_48 : decode cX5_look 48 = .ok (.ldc2_w 66, 3) := by decide +kernel
theorem dX5_look_51 : decode cX5_look 51 = .ok (.lreturn, 1) := by decide +kernel
theorem dX5_look_52 : decode cX5_look 52 = .ok (.aload_n 0, 1) := by decide +kernel
theorem dX5_look_53 : decode cX5_look 53 = .ok (.iload_n 1, 1) := by decide +kernel
theorem dX5_look_54 : decode cX5_look 54 = .ok (.iload_n 2, 1) := by decide +kernel
theorem dX5_look_55 : decode cX5_look 55 = .ok (.getstatic 179, 3) := by decide +kernel
theorem dX5_look_58 : decode cX5_look 58 = .ok (.iload_n 3, 1) := by decide +kernel
theorem dX5_look_59 : decode cX5_look 59 = .ok (.iaload, 1) := by decide +kernel
theorem dX5_look_60 : decode cX5_look 60 = .ok (.invokestatic 37, 3) := by decide +kernel
theorem dX5_look_63 : decode cX5_look 63 = .ok (.invokevirtual 41, 3) := by decide +kernel
theorem dX5_look_66 : decode cX5_look 66 = .ok (.lreturn, 1) := by decide +kernel
theorem dX5_as_0 : decode cX5_as 0 = .ok (.aload_n 0, 1) := by decide +kernel
theorem dX5_as_1 : decode cX5_as 1 = .ok (.iload_n 1, 1) := by decide +kernel
theorem dX5_as_2 : decode cX5_as 2 = .ok (.invokevirtual 68, 3) := by decide +kernel
theorem dX5_as_5 : decode cX5_as 5 = .ok (.ifCond .eq 22, 3) := by decide +kernel
theorem dX5_as_8 : decode cX5_as 8 = .ok (.iload_n 3, 1) := by decide +kernel
theorem dX5_as_9 : decode cX5_as 9 = .ok (.invokestatic 33, 3) := by decide +kernel
theorem dX5_as_12 : decode cX5_as 12 = .ok (.ifCond .eq 15, 3) := by decide +kernel
theorem dX5_as_15 : decode cX5_as 15 = .ok (.iload 4, 2) := by decide +kernel
theorem dX5_as_17 : decode cX5_as 17 = .ok (.ifCond .lt 10, 3) := by decide +kernel
theorem dX5_as_20 : decode cX5_as 20 = .ok (.iload 4, 2) := by decide +kernel
theorem dX5_as_22 : decode cX5_as 22 = .ok (.bipush 11, 2) := by decide +kernel
theorem dX5_as_24 : decode cX5_as 24 = .ok (.if_icmp .le 7, 3) := by decide +kernel
theorem dX5_as_27 : decode cX5_as 27 = .ok (.ldc2_w 66, 3) := by decide +kernel
theorem dX5_as_30 : decode cX5_as 30 = .ok (.lreturn, 1) := by decide +kernel
theorem dX5_as_31 : decode cX5_as 31 = .ok (.iconst 0, 1) := by decide +kernel
theorem dX5_as_32 : decode cX5_as 32 = .ok (.istore 5, 2) := by decide +kernel
theorem dX5_as_34 : decode cX5_as 34 = .ok (.iload 5, 2) := by decide +kernel
theorem dX5_as_36 : decode cX5_as 36 = .ok (.aload_n 0, 1) := by decide +kernel
theorem dX5_as_37 : decode cX5_as 37 = .ok (.getfield 105, 3) := by decide +kernel
theorem dX5_as_40 : decode cX5_as 40 = .ok (.if_icmp .ge 105, 3) := by decide +kernel
theorem dX5_as_43 : decode cX5_as 43 = .ok (.aload_n 0, 1) := by decide +kernel
theorem dX5_as_44 : decode cX5_as 44 = .ok (.getfield 18, 3) := by decide +kernel
theorem dX5_as_47 : decode cX5_as 47 = .ok (.iload 5, 2) := by decide +kernel
theorem dX5_as_49 : decode cX5_as 49 = .ok (.iaload, 1) := by decide +kernel
theorem dX5_as_50 : decode cX5_as 50 = .ok (.iload_n 1, 1) := by decide +kernel
theorem dX5_as_51 : decode cX5_as 51 = .ok (.if_icmp .ne 88, 3) := by decide +kernel
theorem dX5_as_54 : decode cX5_as 54 = .ok (.aload_n 0, 1) := by decide +kernel
theorem dX5_as_55 : decode cX5_as 55 = .ok (.getfield 15, 3) := by decide +kernel
theorem dX5_as_58 : decode cX5_as 58 = .ok (.sipush 1393, 3) := by decide +kernel
theorem dX5_as_61 : decode cX5_as 61 = .ok (.iload 5, 2) := by decide +kernel
theorem dX5_as_63 : decode cX5_as 63 = .ok (.imul, 1) := by decide +kernel
theorem dX5_as_64 : decode cX5_as 64 = .ok (.iconst 5, 1) := by decide +kernel
theorem dX5_as_65 : decode cX5_as 65 = .ok (.iadd, 1) := by decide +kernel
theorem dX5_as_66 : decode cX5_as 66 = .ok (.laload, 1) := by decide +kernel
theorem dX5_as_67 : decode cX5_as 67 = .ok (.iload_n 2, 1) := by decide +kernel
theorem dX5_as_68 : decode cX5_as 68 = .ok (.i2l, 1) := by decide +kernel
theorem dX5_as_69 : decode cX5_as 69 = .ok (.lcmp, 1) := by decide +kernel
theorem dX5_as_70 : decode cX5_as 70 = .ok (.ifCond .eq 6, 3) := by decide +kernel
theorem dX5_as_73 : decode cX5_as 73 = .ok (.goto 66, 3) := by decide +kernel
theorem dX5_as_76 : decode cX5_as 76 = .ok (.iload 4, 2) := by decide +kernel
theorem dX5_as_78 : decode cX5_as 78 = .ok (.ifCond .le 38, 3) := by decide +kernel
theorem dX5_as_81 : decode cX5_as 81 = .ok (.iload 4, 2) := by decide +kernel
theorem dX5_as_83 : decode cX5_as 83 = .ok (.bipush 11, 2) := by decide +kernel
theorem dX5_as_85 : decode cX5_as 85 = .ok (.if_icmp .ge 31, 3) := by decide +kernel
theorem dX5_as_88 : decode cX5_as 88 = .ok (.aload_n 0, 1) := by decide +kernel
theorem dX5_as_89 : decode cX5_as 89 = .ok (.getfield 15, 3) := by decide +kernel
theorem dX5_as_92 : decode cX5_as 92 = .ok (.sipush 1393, 3) := by decide +kernel
theorem dX5_as_95 : decode cX5_as 95 = .ok (.iload 5, 2) := by decide +kernel
theorem dX5_as_97 : decode cX5_as 97 = .ok (.imul, 1) := by decide +kernel
theorem dX5_as_98 : decode cX5_as 98 = .ok (.iload_n 3, 1) := by decide +kernel
theorem dX5_as_99 : decode cX5_as 99 = .ok (.iconst 0, 1) := by decide +kernel
theorem dX5_as_100 : decode cX5_as 100 = .ok (.invokestatic 37, 3) := by decide +kernel
theorem dX5_as_103 : decode cX5_as 103 = .ok (.iadd, 1) := by decide +kernel
theorem dX5_as_104 : decode cX5_as 104 = .ok (.laload, 1) := by decide +kernel
theorem dX5_as_105 : decode cX5_as 105 = .ok (.ldc2_w 45, 3) := by decide +kernel
theorem dX5_as_108 : decode cX5_as 108 = .ok (.lcmp, 1) := by decide +kernel
theorem dX5_as_109 : decode cX5_as 109 = .ok (.ifCond .ge 7, 3) := by decide +kernel
theorem dX5_as_112 : decode cX5_as 112 = .ok (.ldc2_w 66, 3) := by decide +kernel
theorem dX5_as_115 : decode cX5_as 115 = .ok (.lreturn, 1) := by decide +kernel
theorem dX5_as_116 : decode cX5_as 116 = .ok (.aload_n 0, 1) := by decide +kernel
theorem dX5_as_117 : decode cX5_as 117 = .ok (.getfield 15, 3) := by decide +kernel
theorem dX5_as_120 : decode cX5_as 120 = .ok (.sipush 1393, 3) := by decide +kernel
theorem dX5_as_123 : decode cX5_as 123 = .ok (.iload 5, 2) := by decide +kernel
theorem dX5_as_125 : decode cX5_as 125 = .ok (.imul, 1) := by decide +kernel
theorem dX5_as_126 : decode cX5_as 126 = .ok (.iload_n 3, 1) := by decide +kernel
theorem dX5_as_127 : decode cX5_as 127 = .ok (.getstatic 179, 3) := by decide +kernel
theorem dX5_as_130 : decode cX5_as 130 = .ok (.iload 4, 2) := by decide +kernel
theorem dX5_as_132 : decode cX5_as 132 = .ok (.iaload, 1) := by decide +kernel
theorem dX5_as_133 : decode cX5_as 133 = .ok (.invokestatic 37, 3) := by decide +kernel
theorem dX5_as_136 : decode cX5_as 136 = .ok (.iadd, 1) := by decide +kernel
theorem dX5_as_137 : decode cX5_as 137 = .ok (.laload, 1) := by decide +kernel
theorem dX5_as_138 : decode cX5_as 138 = .ok (.lreturn, 1) := by decide +kernel
theorem dX5_as_139 : decode cX5_as 139 = .ok (.iinc 5 1, 3) := by decide +kernel
theorem dX5_as_142 : decode cX5_as 142 = .ok (.goto (-108), 3) := by decide +kernel
theorem dX5_as_145 : decode cX5_as 145 = .ok (.ldc2_w 66, 3) := by decide +kernel
theorem dX5_as_148 : decode cX5_as 148 = .ok (.lreturn, 1) := by decide +kernel
theorem dX5_count_0 : decode cX5_count 0 = .ok (.iload_n 1, 1) := by decide +kernel
theorem dX5_count_1 : decode cX5_count 1 = .ok (.iconst (-1), 1) := by decide +kernel
theorem dX5_count_2 : decode cX5_count 2 = .ok (.if_icmp .ne 32, 3) := by decide +kernel
theorem dX5_count_5 : decode cX5_count 5 = .ok (.iload_n 2, 1) := by decide +kernel
theorem dX5_count_6 : decode cX5_count 6 = .ok (.ifCond .ne 11, 3) := by decide +kernel
theorem dX5_count_9 : decode cX5_count 9 = .ok (.aload_n 0, 1) := by decide +kernel
theorem dX5_count_10 : decode cX5_count 10 = .ok (.getfield 29, 3) := by decide +kernel
theorem dX5_count_13 : decode cX5_count 13 = .ok (.i2l, 1) := by decide +kernel
theorem dX5_count_14 : decode cX5_count 14 = .ok (.goto 19, 3) := by decide +kernel
theorem dX5_count_17 : decode cX5_count 17 = .ok (.iload_n 2, 1) := by decide +kernel
theorem dX5_count_18 : decode cX5_count 18 = .ok (.iconst 1, 1) := by decide +kernel
theorem dX5_count_19 : decode cX5_count 19 = .ok (.if_icmp .ne 11, 3) := by decide +kernel
theorem dX5_count_22 : decode cX5_count 22 = .ok (.aload_n 0, 1) := by decide +kernel
theorem dX5_count_23 : decode cX5_count 23 = .ok (.getfield 176, 3) := by decide +kernel
theorem dX5_count_26 : decode cX5_count 26 = .ok (.i2l, 1) := by decide +kernel
theorem dX5_count_27 : decode cX5_count 27 = .ok (.goto 6, 3) := by decide +kernel
theorem dX5_count_30 : decode cX5_count 30 = .ok (.ldc2_w 66, 3) := by decide +kernel
theorem dX5_count_33 : decode cX5_count 33 = .ok (.lreturn, 1) := by decide +kernel
theorem dX5_count_34 : decode cX5_count 34 = .ok (.aload_n 0, 1) := by decide +kernel
theorem dX5_count_35 : decode cX5_count 35 = .ok (.iload_n 1, 1) := by decide +kernel
theorem dX5_count_36 : decode cX5_count 36 = .ok (.invokevirtual 68, 3) := by decide +kernel
theorem dX5_count_39 : decode cX5_count 39 = .ok (.ifCond .ne 7, 3) := by decide +kernel
theorem dX5_count_42 : decode cX5_count 42 = .ok (.ldc2_w 66, 3) := by decide +kernel
theorem dX5_count_45 : decode cX5_count 45 = .ok (.lreturn, 1) := by decide +kernel
theorem dX5_count_46 : decode cX5_count 46 = .ok (.iload_n 2, 1) := by decide +kernel
theorem dX5_count_47 : decode cX5_count 47 = .ok (.tableswitch 172 0 13 #[69, 76, 83, 90, 97, 104, 111, 119, 127, 135, 143, 149, 157, 164], 69) := by decide +kernel
theorem dX5_count_116 : decode cX5_count 116 = .ok (.aload_n 0, 1) := by decide +kernel
theorem dX5_count_117 : decode cX5_count 117 = .ok (.iload_n 1, 1) := by decide +kernel
theorem dX5_count_118 : decode cX5_count 118 = .ok (.iconst 0, 1) := by decide +kernel
theorem dX5_count_119 : decode cX5_count 119 = .ok (.invokevirtual 41, 3) := by decide +kernel
theorem dX5_count_122 : decode cX5_count 122 = .ok (.lreturn, 1) := by decide +kernel
theorem dX5_count_123 : decode cX5_count 123 = .ok (.aload_n 0, 1) := by decide +kernel
theorem dX5_count_124 : decode cX5_count 124 = .ok (.iload_n 1, 1) := by decide +kernel
theorem dX5_count_125 : decode cX5_count 125 = .ok (.iconst 1, 1) := by decide +kernel
theorem dX5_count_126 : decode cX5_count 126 = .ok (.invokevirtual 41, 3) := by decide +kernel
theorem dX5_count_129 : decode cX5_count 129 = .ok (.lreturn, 1) := by decide +kernel
theorem dX5_count_130 : decode cX5_count 130 = .ok (.aload_n 0, 1) := by decide +kernel
theorem dX5_count_131 : decode cX5_count 131 = .ok (.iload_n 1, 1) := by decide +kernel
theorem dX5_count_132 : decode cX5_count 132 = .ok (.iconst 2, 1) := by decide +kernel
theorem dX5_count_133 : decode cX5_count 133 = .ok (.invokevirtual 41, 3) := by decide +kernel
theorem dX5_count_136 : decode cX5_count 136 = .ok (.lreturn, 1) := by decide +kernel
theorem dX5_count_137 : decode cX5_count 137 = .ok (.aload_n 0, 1) := by decide +kernel
theorem dX5_count_138 : decode cX5_count 138 = .ok (.iload_n 1, 1) := by decide +kernel
theorem dX5_count_139 : decode cX5_count 139 = .ok (.iconst 3, 1) := by decide +kernel
theorem dX5_count_140 : decode cX5_count 140 = .ok (.invokevirtual 41, 3) := by decide +kernel
theorem dX5_count_143 : decode cX5_count 143 = .ok (.lreturn, 1) := by decide +kernel
theorem dX5_count_144 : decode cX5_count 144 = .ok (.aload_n 0, 1) := by decide +kernel
theorem dX5_count_145 : decode cX5_count 145 = .ok (.iload_n 1, 1) := by decide +kernel
theorem dX5_count_146 : decode cX5_count 146 = .ok (.iconst 4, 1) := by decide +kernel
theorem dX5_count_147 : decode cX5_count 147 = .ok (.invokevirtual 41, 3) := by decide +kernel
theorem dX5_count_150 : decode cX5_count 150 = .ok (.lreturn, 1) := by decide +kernel
theorem dX5_count_151 : decode cX5_count 151 = .ok (.aload_n 0, 1) := by decide +kernel
theorem dX5_count_152 : decode cX5_count 152 = .ok (.iload_n 1, 1) := by decide +kernel
theorem dX5_count_153 : decode cX5_count 153 = .ok (.iconst 5, 1) := by decide +kernel
theorem dX5_count_154 : decode cX5_count 154 = .ok (.invokevirtual 41, 3) := by decide +kernel
theorem dX5_count_157 : decode cX5_count 157 = .ok (.lreturn, 1) := by decide +kernel
theorem dX5_count_158 : decode cX5_count 158 = .ok (.aload_n 0, 1) := by decide +kernel
theorem dX5_count_159 : decode cX5_count 159 = .ok (.iload_n 1, 1) := by decide +kernel
theorem dX5_count_160 : decode cX5_count 160 = .ok (.bipush 6, 2) := by decide +kernel
theorem dX5_count_162 : decode cX5_count 162 = .ok (.invokevirtual 41, 3) := by decide +kernel
theorem dX5_count_165 : decode cX5_count 165 = .ok (.lreturn, 1) := by decide +kernel
theorem dX5_count_166 : decode cX5_count 166 = .ok (.aload_n 0, 1) := by decide +kernel
theorem dX5_count_167 : decode cX5_count 167 = .ok (.iload_n 1, 1) := by decide +kernel
theorem dX5_count_168 : decode cX5_count 168 = .ok (.bipush 7, 2) := by decide +kernel
theorem dX5_count_170 : decode cX5_count 170 = .ok (.invokevirtual 41, 3) := by decide +kernel
theorem dX5_count_173 : decode cX5_count 173 = .ok (.lreturn, 1) := by decide +kernel
theorem dX5_count_174 : decode cX5_count 174 = .ok (.aload_n 0, 1) := by decide +kernel
theorem dX5_count_175 : decode cX5_count 175 = .ok (.iload_n 1, 1) := by decide +kernel
theorem dX5_count_176 : decode cX5_count 176 = .ok (.bipush 8, 2) := by decide +kernel
theorem dX5_count_178 : decode cX5_count 178 = .ok (.invokevirtual 41, 3) := by decide +kernel
theorem dX5_count_181 : decode cX5_count 181 = .ok (.lreturn, 1) := by decide +kernel
theorem dX5_count_182 : decode cX5_count 182 = .ok (.aload_n 0, 1) := by decide +kernel
theorem dX5_count_183 : decode cX5_count 183 = .ok (.iload_n 1, 1) := by decide +kernel
theorem dX5_count_184 : decode cX5_count 184 = .ok (.bipush 9, 2) := by decide +kernel
theorem dX5_count_186 : decode cX5_count 186 = .ok (.invokevirtual 41, 3) := by decide +kernel
theorem dX5_count_189 : decode cX5_count 189 = .ok (.lreturn, 1) := by decide +kernel
theorem dX5_count_190 : decode cX5_count 190 = .ok (.aload_n 0, 1) := by decide +kernel
theorem dX5_count_191 : decode cX5_count 191 = .ok (.iload_n 1, 1) := by decide +kernel
theorem dX5_count_192 : decode cX5_count 192 = .ok (.invokevirtual 121, 3) := by decide +kernel
theorem dX5_count_195 : decode cX5_count 195 = .ok (.lreturn, 1) := by decide +kernel
theorem dX5_count_196 : decode cX5_count 196 = .ok (.aload_n 0, 1) := by decide +kernel
theorem dX5_count_197 : decode cX5_count 197 = .ok (.iload_n 1, 1) := by decide +kernel
theorem dX5_count_198 : decode cX5_count 198 = .ok (.bipush 10, 2) := by decide +kernel
theorem dX5_count_200 : decode cX5_count 200 = .ok (.invokevirtual 41, 3) := by decide +kernel
theorem dX5_count_203 : decode cX5_count 203 = .ok (.lreturn, 1) := by decide +kernel
theorem dX5_count_204 : decode cX5_count 204 = .ok (.aload_n 0, 1) := by decide +kernel
theorem dX5_count_205 : decode cX5_count 205 = .ok (.iload_n 1, 1) := by decide +kernel
theorem dX5_count_206 : decode cX5_count 206 = .ok (.invokevirtual 182, 3) := by decide +kernel
theorem dX5_count_209 : decode cX5_count 209 = .ok (.i2l, 1) := by decide +kernel
theorem dX5_count_210 : decode cX5_count 210 = .ok (.lreturn, 1) := by decide +kernel
theorem dX5_count_211 : decode cX5_count 211 = .ok (.aload_n 0, 1) := by decide +kernel
theorem dX5_count_212 : decode cX5_count 212 = .ok (.iload_n 1, 1) := by decide +kernel
theorem dX5_count_213 : decode cX5_count 213 = .ok (.bipush 11, 2) := by decide +kernel
theorem dX5_count_215 : decode cX5_count 215 = .ok (.invokevirtual 41, 3) := by decide +kernel
theorem dX5_count_218 : decode cX5_count 218 = .ok (.lreturn, 1) := by decide +kernel
theorem dX5_count_219 : decode cX5_count 219 = .ok (.ldc2_w 66, 3) := by decide +kernel
theorem dX5_count_222 : decode cX5_count 222 = .ok (.lreturn, 1) := by decide +kernel
