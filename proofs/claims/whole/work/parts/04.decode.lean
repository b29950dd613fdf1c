theorem dX0_init_0 : decode cX0_init 0 = .ok (.aload_n 0, 1) := by decide +kernel
theorem dX0_init_1 : decode cX0_init 1 = .ok (.invokespecial 1, 3) := by decide +kernel
theorem dX0_init_4 : decode cX0_init 4 = .ok (.aload_n 0, 1) := by decide +kernel
theorem dX0_init_5 : decode cX0_init 5 = .ok (.iconst 0, 1) := by decide +kernel
theorem dX0_init_6 : decode cX0_init 6 = .ok (.putfield 7, 3) := by decide +kernel
theorem dX0_init_9 : decode cX0_init 9 = .ok (.aload_n 0, 1) := by decide +kernel
theorem dX0_init_10 : decode cX0_init 10 = .ok (.iconst 0, 1) := by decide +kernel
theorem dX0_init_11 : decode cX0_init 11 = .ok (.putfield 13, 3) := by decide +kernel
theorem dX0_init_14 : decode cX0_init 14 = .ok (.aload_n 0, 1) := by decide +kernel
theorem dX0_init_15 : decode cX0_init 15 = .ok (.iconst 0, 1) := by decide +kernel
theorem dX0_init_16 : decode cX0_init 16 = .ok (.putfield 16, 3) := by decide +kernel
theorem dX0_init_19 : decode cX0_init 19 = .ok (.aload_n 0, 1) := by decide +kernel
theorem dX0_init_20 : decode cX0_init 20 = .ok (.iconst 1, 1) := by decide +kernel
theorem dX0_init_21 : decode cX0_init 21 = .ok (.putfield 19, 3) := by decide +kernel
theorem dX0_init_24 : decode cX0_init 24 = .ok (.aload_n 0, 1) := by decide +kernel
theorem dX0_init_25 : decode cX0_init 25 = .ok (.iconst 0, 1) := by decide +kernel
theorem dX0_init_26 : decode cX0_init 26 = .ok (.putfield 22, 3) := by decide +kernel
theorem dX0_init_29 : decode cX0_init 29 = .ok (.aload_n 0, 1) := by decide +kernel
theorem dX0_init_30 : decode cX0_init 30 = .ok (.bipush 10, 2) := by decide +kernel
theorem dX0_init_32 : decode cX0_init 32 = .ok (.newarray .int, 2) := by decide +kernel
theorem dX0_init_34 : decode cX0_init 34 = .ok (.putfield 25, 3) := by decide +kernel
theorem dX0_init_37 : decode cX0_init 37 = .ok (.aload_n 0, 1) := by decide +kernel
theorem dX0_init_38 : decode cX0_init 38 = .ok (.bipush 10, 2) := by decide +kernel
theorem dX0_init_40 : decode cX0_init 40 = .ok (.newarray .int, 2) := by decide +kernel
theorem dX0_init_42 : decode cX0_init 42 = .ok (.putfield 29, 3) := by decide +kernel
theorem dX0_init_45 : decode cX0_init 45 = .ok (.return_, 1) := by decide +kernel
theorem dX0_begin_0 : decode cX0_begin 0 = .ok (.aload_n 0, 1) := by decide +kernel
theorem dX0_begin_1 : decode cX0_begin 1 = .ok (.aload_n 1, 1) := by decide +kernel
theorem dX0_begin_2 : decode cX0_begin 2 = .ok (.getfield 32, 3) := by decide +kernel
theorem dX0_begin_5 : decode cX0_begin 5 = .ok (.putfield 7, 3) := by decide +kernel
theorem dX0_begin_8 : decode cX0_begin 8 = .ok (.aload_n 0, 1) := by decide +kernel
theorem dX0_begin_9 : decode cX0_begin 9 = .ok (.aload_n 1, 1) := by decide +kernel
theorem dX0_begin_10 : decode cX0_begin 10 = .ok (.getfield 37, 3) := by decide +kernel
theorem dX0_begin_13 : decode cX0_begin 13 = .ok (.putfield 13, 3) := by decide +kernel
theorem dX0_begin_16 : decode cX0_begin 16 = .ok (.aload_n 0, 1) := by decide +kernel
theorem dX0_begin_17 : decode cX0_begin 17 = .ok (.iconst 0, 1) := by decide +kernel
theorem dX0_begin_18 : decode cX0_begin 18 = .ok (.putfield 16, 3) := by decide +kernel
theorem dX0_begin_21 : decode cX0_begin 21 = .ok (.aload_n 0, 1) := by decide +kernel
theorem dX0_begin_22 : decode cX0_begin 22 = .ok (.iconst 0, 1) := by decide +kernel
theorem dX0_begin_23 : decode cX0_begin 23 = .ok (.putfield 22, 3) := by decide +kernel
theorem dX0_begin_26 : decode cX0_begin 26 = .ok (.return_, 1) := by decide +kernel
theorem dX0_bankOf_0 : decode cX0_bankOf 0 = .ok (.iload_n 1, 1) := by decide +kernel
theorem dX0_bankOf_1 : decode cX0_bankOf 1 = .ok (.ifCond .lt 24, 3) := by decide +kernel
theorem dX0_bankOf_4 : decode cX0_bankOf 4 = .ok (.iload_n 1, 1) := by decide +kernel
theorem dX0_bankOf_5 : decode cX0_bankOf 5 = .ok (.bipush 7, 2) := by decide +kernel
theorem dX0_bankOf_7 : decode cX0_bankOf 7 = .ok (.if_icmp .ge 18, 3) := by decide +kernel
theorem dX0_bankOf_10 : decode cX0_bankOf 10 = .ok (.aload_n 0, 1) := by decide +kernel
theorem dX0_bankOf_11 : decode cX0_bankOf 11 = .ok (.getfield 7, 3) := by decide +kernel
theorem dX0_bankOf_14 : decode cX0_bankOf 14 = .ok (.iconst 1, 1) := by decide +kernel
theorem dX0_bankOf_15 : decode cX0_bankOf 15 = .ok (.iload_n 1, 1) := by decide +kernel
theorem dX0_bankOf_16 : decode cX0_bankOf 16 = .ok (.ishl, 1) := by decide +kernel
theorem dX0_bankOf_17 : decode cX0_bankOf 17 = .ok (.iand, 1) := by decide +kernel
theorem dX0_bankOf_18 : decode cX0_bankOf 18 = .ok (.ifCond .eq 7, 3) := by decide +kernel
theorem dX0_bankOf_21 : decode cX0_bankOf 21 = .ok (.iconst 1, 1) := by decide +kernel
theorem dX0_bankOf_22 : decode cX0_bankOf 22 = .ok (.goto 4, 3) := by decide +kernel
theorem dX0_bankOf_25 : decode cX0_bankOf 25 = .ok (.iconst 0, 1) := by decide +kernel
theorem dX0_bankOf_26 : decode cX0_bankOf 26 = .ok (.ireturn, 1) := by decide +kernel
theorem dX0_draw_0 : decode cX0_draw 0 = .ok (.aload_n 0, 1) := by decide +kernel
theorem dX0_draw_1 : decode cX0_draw 1 = .ok (.aload_n 0, 1) := by decide +kernel
theorem dX0_draw_2 : decode cX0_draw 2 = .ok (.getfield 19, 3) := by decide +kernel
theorem dX0_draw_5 : decode cX0_draw 5 = .ok (.ldc 38, 2) := by decide +kernel
theorem dX0_draw_7 : decode cX0_draw 7 = .ok (.imul, 1) := by decide +kernel
theorem dX0_draw_8 : decode cX0_draw 8 = .ok (.sipush 12345, 3) := by decide +kernel
theorem dX0_draw_11 : decode cX0_draw 11 = .ok (.iadd, 1) := by decide +kernel
theorem dX0_draw_12 : decode cX0_draw 12 = .ok (.putfield 19, 3) := by decide +kernel
theorem dX0_draw_15 : decode cX0_draw 15 = .ok (.aload_n 0, 1) := by decide +kernel
theorem dX0_draw_16 : decode cX0_draw 16 = .ok (.getfield 19, 3) := by decide +kernel
theorem dX0_draw_19 : decode cX0_draw 19 = .ok (.bipush 16, 2) := by decide +kernel
theorem dX0_draw_21 : decode cX0_draw 21 = .ok (.iushr, 1) := by decide +kernel
theorem dX0_draw_22 : decode cX0_draw 22 = .ok (.bipush 10, 2) := by decide +kernel
theorem dX0_draw_24 : decode cX0_draw 24 = .ok (.irem, 1) := by decide +kernel
theorem dX0_draw_25 : decode cX0_draw 25 = .ok (.ireturn, 1) := by decide +kernel
theorem dX0_freeze_0 : decode cX0_freeze 0 = .ok (.aload_n 0, 1) := by decide +kernel
theorem dX0_freeze_1 : decode cX0_freeze 1 = .ok (.aload_n 0, 1) := by decide +kernel
theorem dX0_freeze_2 : decode cX0_freeze 2 = .ok (.getfield 16, 3) := by decide +kernel
theorem dX0_freeze_5 : decode cX0_freeze 5 = .ok (.iconst 1, 1) := by decide +kernel
theorem dX0_freeze_6 : decode cX0_freeze 6 = .ok (.iadd, 1) := by decide +kernel
theorem dX0_freeze_7 : decode cX0_freeze 7 = .ok (.bipush 9, 2) := by decide +kernel
theorem dX0_freeze_9 : decode cX0_freeze 9 = .ok (.invokestatic 39, 3) := by decide +kernel
theorem dX0_freeze_12 : decode cX0_freeze 12 = .ok (.putfield 16, 3) := by decide +kernel
theorem dX0_freeze_15 : decode cX0_freeze 15 = .ok (.return_, 1) := by decide +kernel
theorem dX0_thaw_0 : decode cX0_thaw 0 = .ok (.aload_n 0, 1) := by decide +kernel
theorem dX0_thaw_1 : decode cX0_thaw 1 = .ok (.aload_n 0, 1) := by decide +kernel
theorem dX0_thaw_2 : decode cX0_thaw 2 = .ok (.getfield 16, 3) := by decide +kernel
theorem dX0_thaw_5 : decode cX0_thaw 5 = .ok (.iconst 1, 1) := by decide +kernel
theorem dX0_thaw_6 : decode cX0_thaw 6 = .ok (.isub, 1) := by decide +kernel
theorem dX0_thaw_7 : decode cX0_thaw 7 = .ok (.iconst 0, 1) := by decide +kernel
theorem dX0_thaw_8 : decode cX0_thaw 8 = .ok (.invokestatic 45, 3) := by decide +kernel
theorem dX0_thaw_11 : decode cX0_thaw 11 = .ok (.putfield 16, 3) := by decide +kernel
theorem dX0_thaw_14 : decode cX0_thaw 14 = .ok (.return_, 1) := by decide +kernel
theorem dX0_remember_0 : decode cX0_remember 0 = .ok (.aload_n 0, 1) := by decide +kernel
theorem dX0_remember_1 : decode cX0_remember 1 = .ok (.getfield 22, 3) := by decide +kernel
theorem dX0_remember_4 : decode cX0_remember 4 = .ok (.bipush 10, 2) := by decide +kernel
theorem dX0_remember_6 : decode cX0_remember 6 = .ok (.if_icmp .lt 7, 3) := by decide +kernel
theorem dX0_remember_9 : decode cX0_remember 9 = .ok (.aload_n 0, 1) := by decide +kernel
theorem dX0_remember_10 : decode cX0_remember 10 = .ok (.invokevirtual 48, 3) := by decide +kernel
theorem dX0_remember_13 : decode cX0_remember 13 = .ok (.aload_n 0, 1) := by decide +kernel
theorem dX0_remember_14 : decode cX0_remember 14 = .ok (.getfield 25, 3) := by decide +kernel
theorem dX0_remember_17 : decode cX0_remember 17 = .ok (.aload_n 0, 1) := by decide +kernel
theorem dX0_remember_18 : decode cX0_remember 18 = .ok (.getfield 22, 3) := by decide +kernel
theorem dX0_remember_21 : decode cX0_remember 21 = .ok (.aload_n 0, 1) := by decide +kernel
theorem dX0_remember_22 : decode cX0_remember 22 = .ok (.getfield 7, 3) := by decide +kernel
theorem dX0_remember_25 : decode cX0_remember 25 = .ok (.iastore, 1) := by decide +kernel
theorem dX0_remember_26 : decode cX0_remember 26 = .ok (.aload_n 0, 1) := by decide +kernel
theorem dX0_remember_27 : decode cX0_remember 27 = .ok (.getfield 29, 3) := by decide +kernel
theorem dX0_remember_30 : decode cX0_remember 30 = .ok (.aload_n 0, 1) := by decide +kernel
theorem dX0_remember_31 : decode cX0_remember 31 = .ok (.getfield 22, 3) := by decide +kernel
theorem dX0_remember_34 : decode cX0_remember 34 = .ok (.aload_n 0, 1) := by decide +kernel
theorem dX0_remember_35 : decode cX0_remember 35 = .ok (.getfield 13, 3) := by decide +kernel
theorem dX0_remember_38 : decode cX0_remember 38 = .ok (.iastore, 1) := by decide +kernel
theorem dX0_remember_39 : decode cX0_remember 39 = .ok (.aload_n 0, 1) := by decide +kernel
theorem dX0_remember_40 : decode cX0_remember 40 = .ok (.dup, 1) := by decide +kernel
theorem dX0_remember_41 : decode cX0_remember 41 = .ok (.getfield 22, 3) := by decide +kernel
theorem dX0_remember_44 : decode cX0_remember 44 = .ok (.iconst 1, 1) := by decide +kernel
theorem dX0_remember_45 : decode cX0_remember 45 = .ok (.iadd, 1) := by decide +kernel
theorem dX0_remember_46 : decode cX0_remember 46 = .ok (.putfield 22, 3) := by decide +kernel
theorem dX0_remember_49 : decode cX0_remember 49 = .ok (.return_, 1) := by decide +kernel
theorem dX0_loseOldest_0 : decode cX0_loseOldest 0 = .ok (.iconst 1, 1) := by decide +kernel
theorem dX0_loseOldest_1 : decode cX0_loseOldest 1 = .ok (.istore_n 1, 1) := by decide +kernel
theorem dX0_loseOldest_2 : decode cX0_loseOldest 2 = .ok (.iload_n 1, 1) := by decide +kernel
theorem dX0_loseOldest_3 : decode cX0_loseOldest 3 = .ok (.bipush 10, 2) := by decide +kernel
theorem dX0_loseOldest_5 : decode cX0_loseOldest 5 = .ok (.if_icmp .ge 37, 3) := by decide +kernel
theorem dX0_loseOldest_8 : decode cX0_loseOldest 8 = .ok (.aload_n 0, 1) := by decide +kernel
theorem dX0_loseOldest_9 : decode cX0_loseOldest 9 = .ok (.getfield 25, 3) := by decide +kernel
theorem dX0_loseOldest_12 : decode cX0_loseOldest 12 = .ok (.iload_n 1, 1) := by decide +kernel
theorem dX0_loseOldest_13 : decode cX0_loseOldest 13 = .ok (.iconst 1, 1) := by decide +kernel
theorem dX0_loseOldest_14 : decode cX0_loseOldest 14 = .ok (.isub, 1) := by decide +kernel
theorem dX0_loseOldest_15 : decode cX0_loseOldest 15 = .ok (.aload_n 0, 1) := by decide +kernel
theorem dX0_loseOldest_16 : decode cX0_loseOldest 16 = .ok (.getfield 25, 3) := by decide +kernel
theorem dX0_loseOldest_19 : decode cX0_loseOldest 19 = .ok (.iload_n 1, 1) := by decide +kernel
theorem dX0_loseOldest_20 : decode cX0_loseOldest 20 = .ok (.iaload, 1) := by decide +kernel
theorem dX0_loseOldest_21 : decode cX0_loseOldest 21 = .ok (.iastore, 1) := by decide +kernel
theorem dX0_loseOldest_22 : decode cX0_loseOldest 22 = .ok (.aload_n 0, 1) := by decide +kernel
theorem dX0_loseOldest_23 : decode cX0_loseOldest 23 = .ok (.getfield 29, 3) := by decide +kernel
theorem dX0_loseOldest_26 : decode cX0_loseOldest 26 = .ok (.iload_n 1, 1) := by decide +kernel
theorem dX0_loseOldest_27 : decode cX0_loseOldest 27 = .ok (.iconst 1, 1) := by decide +kernel
theorem dX0_loseOldest_28 : decode cX0_loseOldest 28 = .ok (.isub, 1) := by decide +kernel
theorem dX0_loseOldest_29 : decode cX0_loseOldest 29 = .ok (.aload_n 0, 1) := by decide +kernel
theorem dX0_loseOldest_30 : decode cX0_loseOldest 30 = .ok (.getfield 29, 3) := by decide +kernel
theorem dX0_loseOldest_33 : decode cX0_loseOldest 33 = .ok (.iload_n 1, 1) := by decide +kernel
theorem dX0_loseOldest_34 : decode cX0_loseOldest 34 = .ok (.iaload, 1) := by decide +kernel
theorem dX0_loseOldest_35 : decode cX0_loseOldest 35 = .ok (.iastore, 1) := by decide +kernel
theorem dX0_loseOldest_36 : decode cX0_loseOldest 36 = .ok (.iinc 1 1, 3) := by decide +kernel
theorem dX0_loseOldest_39 : decode cX0_loseOldest 39 = .ok (.goto (-37), 3) := by decide +kernel
theorem dX0_loseOldest_42 : decode cX0_loseOldest 42 = .ok (.aload_n 0, 1) := by decide +kernel
theorem dX0_loseOldest_43 : decode cX0_loseOldest 43 = .ok (.bipush 9, 2) := by decide +kernel
theorem dX0_loseOldest_45 : decode cX0_loseOldest 45 = .ok (.putfield 22, 3) := by decide +kernel
theorem dX0_loseOldest_48 : decode cX0_loseOldest 48 = .ok (.return_, 1) := by decide +kernel
theorem dX0_recall_0 : decode cX0_recall 0 = .ok (.aload_n 0, 1) := by decide +kernel
theorem dX0_recall_1 : decode cX0_recall 1 = .ok (.getfield 22, 3) := by decide +kernel
theorem dX0_recall_4 : decode cX0_recall 4 = .ok (.ifCond .gt 4, 3) := by decide +kernel
theorem dX0_recall_7 : decode cX0_recall 7 = .ok (.return_, 1) := by decide +kernel
theorem dX0_recall_8 : decode cX0_recall 8 = .ok (.aload_n 0, 1) := by decide +kernel
theorem dX0_recall_9 : decode cX0_recall 9 = .ok (.dup, 1) := by decide +kernel
theorem dX0_recall_10 : decode cX0_recall 10 = .ok (.getfield 22, 3) := by decide +kernel
theorem dX0_recall_13 : decode cX0_recall 13 = .ok (.iconst 1, 1) := by decide +kernel
theorem dX0_recall_14 : decode cX0_recall 14 = .ok (.isub, 1) := by decide +kernel
theorem dX0_recall_15 : decode cX0_recall 15 = .ok (.putfield 22, 3) := by decide +kernel
theorem dX0_recall_18 : decode cX0_recall 18 = .ok (.aload_n 0, 1) := by decide +kernel
theorem dX0_recall_19 : decode cX0_recall 19 = .ok (.aload_n 0, 1) := by decide +kernel
theorem dX0_recall_20 : decode cX0_recall 20 = .ok (.getfield 25, 3) := by decide +kernel
theorem dX0_recall_23 : decode cX0_recall 23 = .ok (.aload_n 0, 1) := by decide +kernel
theorem dX0_recall_24 : decode cX0_recall 24 = .ok (.getfield 22, 3) := by decide +kernel
theorem dX0_recall_27 : decode cX0_recall 27 = .ok (.iaload, 1) := by decide +kernel
theorem dX0_recall_28 : decode cX0_recall 28 = .ok (.putfield 7, 3) := by decide +kernel
theorem dX0_recall_31 : decode cX0_recall 31 = .ok (.aload_n 0, 1) := by decide +kernel
theorem dX0_recall_32 : decode cX0_recall 32 = .ok (.aload_n 0, 1) := by decide +kernel
theorem dX0_recall_33 : decode cX0_recall 33 = .ok (.getfield 29, 3) := by decide +kernel
theorem dX0_recall_36 : decode cX0_recall 36 = .ok (.aload_n 0, 1) := by decide +kernel
theorem dX0_recall_37 : decode cX0_recall 37 = .ok (.getfield 22, 3) := by decide +kernel
theorem dX0_recall_40 : decode cX0_recall 40 = .ok (.iaload, 1) := by decide +kernel
theorem dX0_recall_41 : decode cX0_recall 41 = .ok (.putfield 13, 3) := by decide +kernel
theorem dX0_recall_44 : decode cX0_recall 44 = .ok (.return_, 1) := by decide +kernel
theorem dX0_becomeLike_0 : decode cX0_becomeLike 0 = .ok (.aload_n 0, 1) := by decide +kernel
theorem dX0_becomeLike_1 : decode cX0_becomeLike 1 = .ok (.aload_n 1, 1) := by decide +kernel
theorem dX0_becomeLike_2 : decode cX0_becomeLike 2 = .ok (.getfield 7, 3) := by decide +kernel
theorem dX0_becomeLike_5 : decode cX0_becomeLike 5 = .ok (.putfield 7, 3) := by decide +kernel
theorem dX0_becomeLike_8 : decode cX0_becomeLike 8 = .ok (.aload_n 0, 1) := by decide +kernel
theorem dX0_becomeLike_9 : decode cX0_becomeLike 9 = .ok (.aload_n 1, 1) := by decide +kernel
theorem dX0_becomeLike_10 : decode cX0_becomeLike 10 = .ok (.getfield 13, 3) := by decide +kernel
theorem dX0_becomeLike_13 : decode cX0_becomeLike 13 = .ok (.putfield 13, 3) := by decide +kernel
theorem dX0_becomeLike_16 : decode cX0_becomeLike 16 = .ok (.aload_n 0, 1) := by decide +kernel
theorem dX0_becomeLike_17 : decode cX0_becomeLike 17 = .ok (.aload_n 1, 1) := by decide +kernel
theorem dX0_becomeLike_18 : decode cX0_becomeLike 18 = .ok (.getfield 16, 3) := by decide +kernel
theorem dX0_becomeLike_21 : decode cX0_becomeLike 21 = .ok (.putfield 16, 3) := by decide +kernel
theorem dX0_becomeLike_24 : decode cX0_becomeLike 24 = .ok (.aload_n 0, 1) := by decide +kernel
theorem dX0_becomeLike_25 : decode cX0_becomeLike 25 = .ok (.aload_n 1, 1) := by decide +kernel
theorem dX0_becomeLike_26 : decode cX0_becomeLike 26 = .ok (.getfield 19, 3) := by decide +kernel
theorem dX0_becomeLike_29 : decode cX0_becomeLike 29 = .ok (.putfield 19, 3) := by decide +kernel
theorem dX0_becomeLike_32 : decode cX0_becomeLike 32 = .ok (.aload_n 0, 1) := by decide +kernel
theorem dX0_becomeLike_33 : decode cX0_becomeLike 33 = .ok (.aload_n 1, 1) := by decide +kernel
theorem dX0_becomeLike_34 : decode cX0_becomeLike 34 = .ok (.getfield 22, 3) := by decide +kernel
theorem dX0_becomeLike_37 : decode cX0_becomeLike 37 = .ok (.putfield 22, 3) := by decide +kernel
theorem dX0_becomeLike_40 : decode cX0_becomeLike 40 = .ok (.iconst 0, 1) := by decide +kernel
theorem dX0_becomeLike_41 : decode cX0_becomeLike 41 = .ok (.istore_n 2, 1) := by decide +kernel
theorem dX0_becomeLike_42 : decode cX0_becomeLike 42 = .ok (.iload_n 2, 1) := by decide +kernel
theorem dX0_becomeLike_43 : decode cX0_becomeLike 43 = .ok (.bipush 10, 2) := by decide +kernel
theorem dX0_becomeLike_45 : decode cX0_becomeLike 45 = .ok (.if_icmp .ge 33, 3) := by decide +kernel
theorem dX0_becomeLike_48 : decode cX0_becomeLike 48 = .ok (.aload_n 0, 1) := by decide +kernel
theorem dX0_becomeLike_49 : decode cX0_becomeLike 49 = .ok (.getfield 25, 3) := by decide +kernel
theorem dX0_becomeLike_52 : decode cX0_becomeLike 52 = .ok (.iload_n 2, 1) := by decide +kernel
theorem dX0_becomeLike_53 : decode cX0_becomeLike 53 = .ok (.aload_n 1, 1) := by decide +kernel
theorem dX0_becomeLike_54 : decode cX0_becomeLike 54 = .ok (.getfield 25, 3) := by decide +kernel
theorem dX0_becomeLike_57 : decode cX0_becomeLike 57 = .ok (.iload_n 2, 1) := by decide +kernel
theorem dX0_becomeLike_58 : decode cX0_becomeLike 58 = .ok (.iaload, 1) := by decide +kernel
theorem dX0_becomeLike_59 : decode cX0_becomeLike 59 = .ok (.iastore, 1) := by decide +kernel
theorem dX0_becomeLike_60 : decode cX0_becomeLike 60 = .ok (.aload_n 0, 1) := by decide +kernel
theorem dX0_becomeLike_61 : decode cX0_becomeLike 61 = .ok (.getfield 29, 3) := by decide +kernel
theorem dX0_becomeLike_64 : decode cX0_becomeLike 64 = .ok (.iload_n 2, 1) := by decide +kernel
theorem dX0_becomeLike_65 : decode cX0_becomeLike 65 = .ok (.aload_n 1, 1) := by decide +kernel
theorem dX0_becomeLike_66 : decode cX0_becomeLike 66 = .ok (.getfield 29, 3) := by decide +kernel
theorem dX0_becomeLike_69 : decode cX0_becomeLike 69 = .ok (.iload_n 2, 1) := by decide +kernel
theorem dX0_becomeLike_70 : decode cX0_becomeLike 70 = .ok (.iaload, 1) := by decide +kernel
theorem dX0_becomeLike_71 : decode cX0_becomeLike 71 = .ok (.iastore, 1) := by decide +kernel
theorem dX0_becomeLike_72 : decode cX0_becomeLike 72 = .ok (.iinc 2 1, 3) := by decide +kernel
theorem dX0_becomeLike_75 : decode cX0_becomeLike 75 = .ok (.goto (-33), 3) := by decide +kernel
theorem dX0_becomeLike_78 : decode cX0_becomeLike 78 = .ok (.return_, 1) := by decide +kernel
theorem dX1_init_0 : decode cX1_init 0 = .ok (.aload_n 0, 1) := by decide +kernel
theorem dX1_init_1 : decode cX1_init 1 = .ok (.invokespecial 3, 3) := by decide +kernel
theorem dX1_init_4 : decode cX1_init 4 = .ok (.aload_n 0, 1) := by decide +kernel
theorem dX1_init_5 : decode cX1_init 5 = .ok (.iconst 0, 1) := by decide +kernel
theorem dX1_init_6 : decode cX1_init 6 = .ok (.putfield 9, 3) := by decide +kernel
theorem dX1_init_9 : decode cX1_init 9 = .ok (.aload_n 0, 1) := by decide +kernel
theorem dX1_init_10 : decode cX1_init 10 = .ok (.sipush 256, 3) := by decide +kernel
theorem dX1_init_13 : decode cX1_init 13 = .ok (.newarray .int, 2) := by decide +kernel
theorem dX1_init_15 : decode cX1_init 15 = .ok (.putfield 17, 3) := by decide +kernel
theorem dX1_init_18 : decode cX1_init 18 = .ok (.aload_n 0, 1) := by decide +kernel
theorem dX1_init_19 : decode cX1_init 19 = .ok (.sipush 256, 3) := by decide +kernel
theorem dX1_init_22 : decode cX1_init 22 = .ok (.newarray .int, 2) := by decide +kernel
theorem dX1_init_24 : decode cX1_init 24 = .ok (.putfield 21, 3) := by decide +kernel
theorem dX1_init_27 : decode cX1_init 27 = .ok (.aload_n 0, 1) := by decide +kernel
theorem dX1_init_28 : decode cX1_init 28 = .ok (.sipush 256, 3) := by decide +kernel
theorem dX1_init_31 : decode cX1_init 31 = .ok (.newarray .int, 2) := by decide +kernel
theorem dX1_init_33 : decode cX1_init 33 = .ok (.putfield 24, 3) := by decide +kernel
theorem dX1_init_36 : decode cX1_init 36 = .ok (.aload_n 0, 1) := by decide +kernel
theorem dX1_init_37 : decode cX1_init 37 = .ok (.sipush 256, 3) := by decide +kernel
theorem dX1_init_40 : decode cX1_init 40 = .ok (.newarray .int, 2) := by decide +kernel
theorem dX1_init_42 : decode cX1_init 42 = .ok (.putfield 27, 3) := by decide +kernel
theorem dX1_init_45 : decode cX1_init 45 = .ok (.aload_n 0, 1) := by decide +kernel
theorem dX1_init_46 : decode cX1_init 46 = .ok (.sipush 256, 3) := by decide +kernel
theorem dX1_init_49 : decode cX1_init 49 = .ok (.newarray .boolean, 2) := by decide +kernel
theorem dX1_init_51 : decode cX1_init 51 = .ok (.putfield 30, 3) := by decide +kernel
theorem dX1_init_54 : decode cX1_init 54 = .ok (.return_, 1) := by decide +kernel
theorem dX1_explore_0 : decode cX1_explore 0 = .ok (.aload_n 0, 1) := by decide +kernel
theorem dX1_explore_1 : decode cX1_explore 1 = .ok (.iconst 0, 1) := by decide +kernel
theorem dX1_explore_2 : decode cX1_explore 2 = .ok (.putfield 9, 3) := by decide +kernel
theorem dX1_explore_5 : decode cX1_explore 5 = .ok (.iconst 0, 1) := by decide +kernel
theorem dX1_explore_6 : decode cX1_explore 6 = .ok (.istore 5, 2) := by decide +kernel
theorem dX1_explore_8 : decode cX1_explore 8 = .ok (.iload 5, 2) := by decide +kernel
theorem dX1_explore_10 : decode cX1_explore 10 = .ok (.sipush 256, 3) := by decide +kernel
theorem dX1_explore_13 : decode cX1_explore 13 = .ok (.if_icmp .ge 17, 3) := by decide +kernel
theorem dX1_explore_16 : decode cX1_explore 16 = .ok (.aload_n 0, 1) := by decide +kernel
theorem dX1_explore_17 : decode cX1_explore 17 = .ok (.getfield 30, 3) := by decide +kernel
theorem dX1_explore_20 : decode cX1_explore 20 = .ok (.iload 5, 2) := by decide +kernel
theorem dX1_explore_22 : decode cX1_explore 22 = .ok (.iconst 0, 1) := by decide +kernel
theorem dX1_explore_23 : decode cX1_explore 23 = .ok (.bastore, 1) := by decide +kernel
theorem dX1_explore_24 : decode cX1_explore 24 = .ok (.iinc 5 1, 3) := by decide +kernel
theorem dX1_explore_27 : decode cX1_explore 27 = .ok (.goto (-19), 3) := by decide +kernel
theorem dX1_explore_30 : decode cX1_explore 30 = .ok (.aload_n 0, 1) := by decide +kernel
theorem dX1_explore_31 : decode cX1_explore 31 = .ok (.iload_n 2, 1) := by decide +kernel
theorem dX1_explore_32 : decode cX1_explore 32 = .ok (.iconst 0, 1) := by decide +kernel
theorem dX1_explore_33 : decode cX1_explore 33 = .ok (.iconst 0, 1) := by decide +kernel
theorem dX1_explore_34 : decode cX1_explore 34 = .ok (.iconst 0, 1) := by decide +kernel
theorem dX1_explore_35 : decode cX1_explore 35 = .ok (.invokevirtual 34, 3) := by decide +kernel
theorem dX1_explore_38 : decode cX1_explore 38 = .ok (.iconst 0, 1) := by decide +kernel
theorem dX1_explore_39 : decode cX1_explore 39 = .ok (.istore 5, 2) := by decide +kernel
theorem dX1_explore_41 : decode cX1_explore 41 = .ok (.iload 5, 2) := by decide +kernel
theorem dX1_explore_43 : decode cX1_explore 43 = .ok (.sipush 256, 3) := by decide +kernel
theorem dX1_explore_46 : decode cX1_explore 46 = .ok (.if_icmp .ge 28, 3) := by decide +kernel
theorem dX1_explore_49 : decode cX1_explore 49 = .ok (.iload 5, 2) := by decide +kernel
theorem dX1_explore_51 : decode cX1_explore 51 = .ok (.aload_n 0, 1) := by decide +kernel
theorem dX1_explore_52 : decode cX1_explore 52 = .ok (.getfield 9, 3) := by decide +kernel
theorem dX1_explore_55 : decode cX1_explore 55 = .ok (.if_icmp .ge 19, 3) := by decide +kernel
theorem dX1_explore_58 : decode cX1_explore 58 = .ok (.aload_n 0, 1) := by decide +kernel
theorem dX1_explore_59 : decode cX1_explore 59 = .ok (.aload_n 1, 1) := by decide +kernel
theorem dX1_explore_60 : decode cX1_explore 60 = .ok (.iload 5, 2) := by decide +kernel
theorem dX1_explore_62 : decode cX1_explore 62 = .ok (.iload_n 3, 1) := by decide +kernel
theorem dX1_explore_63 : decode cX1_explore 63 = .ok (.iload 4, 2) := by decide +kernel
theorem dX1_explore_65 : decode cX1_explore 65 = .ok (.invokevirtual 38, 3) := by decide +kernel
theorem dX1_explore_68 : decode cX1_explore 68 = .ok (.iinc 5 1, 3) := by decide +kernel
theorem dX1_explore_71 : decode cX1_explore 71 = .ok (.goto (-30), 3) := by decide +kernel
theorem dX1_explore_74 : decode cX1_explore 74 = .ok (.return_, 1) := by decide +kernel
theorem dX1_goOn_0 : decode cX1_goOn 0 = .ok (.aload_n 1, 1) := by decide +kernel
theorem dX1_goOn_1 : decode cX1_goOn 1 = .ok (.aload_n 0, 1) := by decide +kernel
theorem dX1_goOn_2 : decode cX1_goOn 2 = .ok (.getfield 17, 3) := by decide +kernel
theorem dX1_goOn_5 : decode cX1_goOn 5 = .ok (.iload_n 2, 1) := by decide +kernel
theorem dX1_goOn_6 : decode cX1_goOn 6 = .ok (.iaload, 1) := by decide +kernel
theorem dX1_goOn_7 : decode cX1_goOn 7 = .ok (.invokevirtual 42, 3) := by decide +kernel
theorem dX1_goOn_10 : decode cX1_goOn 10 = .ok (.iload 4, 2) := by decide +kernel
theorem dX1_goOn_12 : decode cX1_goOn 12 = .ok (.iand, 1) := by decide +kernel
theorem dX1_goOn_13 : decode cX1_goOn 13 = .ok (.istore 5, 2) := by decide +kernel
theorem dX1_goOn_15 : decode cX1_goOn 15 = .ok (.iload 5, 2) := by decide +kernel
theorem dX1_goOn_17 : decode cX1_goOn 17 = .ok (.invokestatic 46, 3) := by decide +kernel
theorem dX1_goOn_20 : decode cX1_goOn 20 = .ok (.istore 6, 2) := by decide +kernel
theorem dX1_goOn_22 : decode cX1_goOn 22 = .ok (.iconst 0, 1) := by decide +kernel
theorem dX1_goOn_23 : decode cX1_goOn 23 = .ok (.istore 7, 2) := by decide +kernel
theorem dX1_goOn_25 : decode cX1_goOn 25 = .ok (.iconst 0, 1) := by decide +kernel
theorem dX1_goOn_26 : decode cX1_goOn 26 = .ok (.istore 8, 2) := by decide +kernel
theorem dX1_goOn_28 : decode cX1_goOn 28 = .ok (.iload 8, 2) := by decide +kernel
theorem dX1_goOn_30 : decode cX1_goOn 30 = .ok (.iload 6, 2) := by decide +kernel
theorem dX1_goOn_32 : decode cX1_goOn 32 = .ok (.if_icmp .ge 48, 3) := by decide +kernel
theorem dX1_goOn_35 : decode cX1_goOn 35 = .ok (.aload_n 0, 1) := by decide +kernel
theorem dX1_goOn_36 : decode cX1_goOn 36 = .ok (.aload_n 1, 1) := by decide +kernel
theorem dX1_goOn_37 : decode cX1_goOn 37 = .ok (.aload_n 0, 1) := by decide +kernel
theorem dX1_goOn_38 : decode cX1_goOn 38 = .ok (.getfield 17, 3) := by decide +kernel
theorem dX1_goOn_41 : decode cX1_goOn 41 = .ok (.iload_n 2, 1) := by decide +kernel
theorem dX1_goOn_42 : decode cX1_goOn 42 = .ok (.iaload, 1) := by decide +kernel
theorem dX1_goOn_43 : decode cX1_goOn 43 = .ok (.iload 7, 2) := by decide +kernel
theorem dX1_goOn_45 : decode cX1_goOn 45 = .ok (.iload_n 3, 1) := by decide +kernel
theorem dX1_goOn_46 : decode cX1_goOn 46 = .ok (.iload 4, 2) := by decide +kernel
theorem dX1_goOn_48 : decode cX1_goOn 48 = .ok (.invokevirtual 49, 3) := by decide +kernel
theorem dX1_goOn_51 : decode cX1_goOn 51 = .ok (.iload_n 2, 1) := by decide +kernel
theorem dX1_goOn_52 : decode cX1_goOn 52 = .ok (.iload 7, 2) := by decide +kernel
theorem dX1_goOn_54 : decode cX1_goOn 54 = .ok (.aload_n 0, 1) := by decide +kernel
theorem dX1_goOn_55 : decode cX1_goOn 55 = .ok (.getfield 21, 3) := by decide +kernel
theorem dX1_goOn_58 : decode cX1_goOn 58 = .ok (.iload_n 2, 1) := by decide +kernel
theorem dX1_goOn_59 : decode cX1_goOn 59 = .ok (.iaload, 1) := by decide +kernel
theorem dX1_goOn_60 : decode cX1_goOn 60 = .ok (.iconst 1, 1) := by decide +kernel
theorem dX1_goOn_61 : decode cX1_goOn 61 = .ok (.iadd, 1) := by decide +kernel
theorem dX1_goOn_62 : decode cX1_goOn 62 = .ok (.invokevirtual 34, 3) := by decide +kernel
theorem dX1_goOn_65 : decode cX1_goOn 65 = .ok (.iload 7, 2) := by decide +kernel
theorem dX1_goOn_67 : decode cX1_goOn 67 = .ok (.iload 5, 2) := by decide +kernel
theorem dX1_goOn_69 : decode cX1_goOn 69 = .ok (.invokestatic 53, 3) := by decide +kernel
theorem dX1_goOn_72 : decode cX1_goOn 72 = .ok (.istore 7, 2) := by decide +kernel
theorem dX1_goOn_74 : decode cX1_goOn 74 = .ok (.iinc 8 1, 3) := by decide +kernel
theorem dX1_goOn_77 : decode cX1_goOn 77 = .ok (.goto (-49), 3) := by decide +kernel
theorem dX1_goOn_80 : decode cX1_goOn 80 = .ok (.return_, 1) := by decide +kernel
theorem dX1_add_0 : decode cX1_add 0 = .ok (.iload_n 1, 1) := by decide +kernel
theorem dX1_add_1 : decode cX1_add 1 = .ok (.ifCond .lt 29, 3) := by decide +kernel
theorem dX1_add_4 : decode cX1_add 4 = .ok (.iload_n 1, 1) := by decide +kernel
theorem dX1_add_5 : decode cX1_add 5 = .ok (.sipush 256, 3) := by decide +kernel
theorem dX1_add_8 : decode cX1_add 8 = .ok (.if_icmp .ge 22, 3) := by decide +kernel
theorem dX1_add_11 : decode cX1_add 11 = .ok (.aload_n 0, 1) := by decide +kernel
theorem dX1_add_12 : decode cX1_add 12 = .ok (.getfield 30, 3) := by decide +kernel
theorem dX1_add_15 : decode cX1_add 15 = .ok (.iload_n 1, 1) := by decide +kernel
theorem dX1_add_16 : decode cX1_add 16 = .ok (.baload, 1) := by decide +kernel
theorem dX1_add_17 : decode cX1_add 17 = .ok (.ifCond .ne 13, 3) := by decide +kernel
theorem dX1_add_20 : decode cX1_add 20 = .ok (.aload_n 0, 1) := by decide +kernel
theorem dX1_add_21 : decode cX1_add 21 = .ok (.getfield 9, 3) := by decide +kernel
theorem dX1_add_24 : decode cX1_add 24 = .ok (.sipush 256, 3) := by decide +kernel
theorem dX1_add_27 : decode cX1_add 27 = .ok (.if_icmp .lt 4, 3) := by decide +kernel
theorem dX1_add_30 : decode cX1_add 30 = .ok (.return_, 1) := by decide +kernel
theorem dX1_add_31 : decode cX1_add 31 = .ok (.aload_n 0, 1) := by decide +kernel
theorem dX1_add_32 : decode cX1_add 32 = .ok (.getfield 30, 3) := by decide +kernel
theorem dX1_add_35 : decode cX1_add 35 = .ok (.iload_n 1, 1) := by decide +kernel
theorem dX1_add_36 : decode cX1_add 36 = .ok (.iconst 1, 1) := by decide +kernel
theorem dX1_add_37 : decode cX1_add 37 = .ok (.bastore, 1) := by decide +kernel
theorem dX1_add_38 : decode cX1_add 38 = .ok (.aload_n 0, 1) := by decide +kernel
theorem dX1_add_39 : decode cX1_add 39 = .ok (.getfield 17, 3) := by decide +kernel
theorem dX1_add_42 : decode cX1_add 42 = .ok (.aload_n 0, 1) := by decide +kernel
theorem dX1_add_43 : decode cX1_add 43 = .ok (.getfield 9, 3) := by decide +kernel
theorem dX1_add_46 : decode cX1_add 46 = .ok (.iload_n 1, 1) := by decide +kernel
theorem dX1_add_47 : decode cX1_add 47 = .ok (.iastore, 1) := by decide +kernel
theorem dX1_add_48 : decode cX1_add 48 = .ok (.aload_n 0, 1) := by decide +kernel
theorem dX1_add_49 : decode cX1_add 49 = .ok (.getfield 24, 3) := by decide +kernel
theorem dX1_add_52 : decode cX1_add 52 = .ok (.aload_n 0, 1) := by decide +kernel
theorem dX1_add_53 : decode cX1_add 53 = .ok (.getfield 9, 3) := by decide +kernel
theorem dX1_add_56 : decode cX1_add 56 = .ok (.iload_n 2, 1) := by decide +kernel
theorem dX1_add_57 : decode cX1_add 57 = .ok (.iastore, 1) := by decide +kernel
theorem dX1_add_58 : decode cX1_add 58 = .ok (.aload_n 0, 1) := by decide +kernel
theorem dX1_add_59 : decode cX1_add 59 = .ok (.getfield 27, 3) := by decide +kernel
theorem dX1_add_62 : decode cX1_add 62 = .ok (.aload_n 0, 1) := by decide +kernel
theorem dX1_add_63 : decode cX1_add 63 = .ok (.getfield 9, 3) := by decide +kernel
theorem dX1_add_66 : decode cX1_add 66 = .ok (.iload_n 3, 1) := by decide +kernel
theorem dX1_add_67 : decode cX1_add 67 = .ok (.iastore, 1) := by decide +kernel
theorem dX1_add_68 : decode cX1_add 68 = .ok (.aload_n 0, 1) := by decide +kernel
theorem dX1_add_69 : decode cX1_add 69 = .ok (.getfield 21, 3) := by decide +kernel
theorem dX1_add_72 : decode cX1_add 72 = .ok (.aload_n 0, 1) := by decide +kernel
theorem dX1_add_73 : decode cX1_add 73 = .ok (.getfield 9, 3) := by decide +kernel
theorem dX1_add_76 : decode cX1_add 76 = .ok (.iload 4, 2) := by decide +kernel
theorem dX1_add_78 : decode cX1_add 78 = .ok (.iastore, 1) := by decide +kernel
theorem dX1_add_79 : decode cX1_add 79 = .ok (.aload_n 0, 1) := by decide +kernel
theorem dX1_add_80 : decode cX1_add 80 = .ok (.dup, 1) := by decide +kernel
theorem dX1_add_81 : decode cX1_add 81 = .ok (.getfield 9, 3) := by decide +kernel
theorem dX1_add_84 : decode cX1_add 84 = .ok (.iconst 1, 1) := by decide +kernel
theorem dX1_add_85 : decode cX1_add 85 = .ok (.iadd, 1) := by decide +kernel
theorem dX1_add_86 : decode cX1_add 86 = .ok (.putfield 9, 3) := by decide +kernel
theorem dX1_add_89 : decode cX1_add 89 = .ok (.return_, 1) := by decide +kernel
theorem dX1_firstDone_0 : decode cX1_firstDone 0 = .ok (.iconst 0, 1) := by decide +kernel
theorem dX1_firstDone_1 : decode cX1_firstDone 1 = .ok (.istore_n 3, 1) := by decide +kernel
theorem dX1_firstDone_2 : decode cX1_firstDone 2 = .ok (.iload_n 3, 1) := by decide +kernel
theorem dX1_firstDone_3 : decode cX1_firstDone 3 = .ok (.aload_n 0, 1) := by decide +kernel
theorem dX1_firstDone_4 : decode cX1_firstDone 4 = .ok (.getfield 9, 3) := by decide +kernel
theorem dX1_firstDone_7 : decode cX1_firstDone 7 = .ok (.if_icmp .ge 26, 3) := by decide +kernel
theorem dX1_firstDone_10 : decode cX1_firstDone 10 = .ok (.aload_n 1, 1) := by decide +kernel
theorem dX1_firstDone_11 : decode cX1_firstDone 11 = .ok (.aload_n 0, 1) := by decide +kernel
theorem dX1_firstDone_12 : decode cX1_firstDone 12 = .ok (.getfield 17, 3) := by decide +kernel
theorem dX1_firstDone_15 : decode cX1_firstDone 15 = .ok (.iload_n 3, 1) := by decide +kernel
theorem dX1_firstDone_16 : decode cX1_firstDone 16 = .ok (.iaload, 1) := by decide +kernel
theorem dX1_firstDone_17 : decode cX1_firstDone 17 = .ok (.invokevirtual 57, 3) := by decide +kernel
theorem dX1_firstDone_20 : decode cX1_firstDone 20 = .ok (.iload_n 2, 1) := by decide +kernel
theorem dX1_firstDone_21 : decode cX1_firstDone 21 = .ok (.iand, 1) := by decide +kernel
theorem dX1_firstDone_22 : decode cX1_firstDone 22 = .ok (.ifCond .ne 5, 3) := by decide +kernel
theorem dX1_firstDone_25 : decode cX1_firstDone 25 = .ok (.iload_n 3, 1) := by decide +kernel
theorem dX1_firstDone_26 : decode cX1_firstDone 26 = .ok (.ireturn, 1) := by decide +kernel
theorem dX1_firstDone_27 : decode cX1_firstDone 27 = .ok (.iinc 3 1, 3) := by decide +kernel
theorem dX1_firstDone_30 : decode cX1_firstDone 30 = .ok (.goto (-28), 3) := by decide +kernel
theorem dX1_firstDone_33 : decode cX1_firstDone 33 = .ok (.iconst (-1), 1) := by decide +kernel
theorem dX1_firstDone_34 : decode cX1_firstDone 34 = .ok (.ireturn, 1) := by decide +kernel
theorem dX1_leastRent_0 : decode cX1_leastRent 0 = .ok (.iconst 0, 1) := by decide +kernel
theorem dX1_leastRent_1 : decode cX1_leastRent 1 = .ok (.istore_n 3, 1) := by decide +kernel
theorem dX1_leastRent_2 : decode cX1_leastRent 2 = .ok (.iconst 1, 1) := by decide +kernel
theorem dX1_leastRent_3 : decode cX1_leastRent 3 = .ok (.istore 4, 2) := by decide +kernel
theorem dX1_leastRent_5 : decode cX1_leastRent 5 = .ok (.iload 4, 2) := by decide +kernel
theorem dX1_leastRent_7 : decode cX1_leastRent 7 = .ok (.aload_n 0, 1) := by decide +kernel
theorem dX1_leastRent_8 : decode cX1_leastRent 8 = .ok (.getfield 9, 3) := by decide +kernel
theorem dX1_leastRent_11 : decode cX1_leastRent 11 = .ok (.if_icmp .ge 47, 3) := by decide +kernel
theorem dX1_leastRent_14 : decode cX1_leastRent 14 = .ok (.aload_n 0, 1) := by decide +kernel
theorem dX1_leastRent_15 : decode cX1_leastRent 15 = .ok (.getfield 21, 3) := by decide +kernel
theorem dX1_leastRent_18 : decode cX1_leastRent 18 = .ok (.iload 4, 2) := by decide +kernel
theorem dX1_leastRent_20 : decode cX1_leastRent 20 = .ok (.iaload, 1) := by decide +kernel
theorem dX1_leastRent_21 : decode cX1_leastRent 21 = .ok (.iload_n 2, 1) := by decide +kernel
theorem dX1_leastRent_22 : decode cX1_leastRent 22 = .ok (.if_icmp .gt 36, 3) := by decide +kernel
theorem dX1_leastRent_25 : decode cX1_leastRent 25 = .ok (.aload_n 1, 1) := by decide +kernel
theorem dX1_leastRent_26 : decode cX1_leastRent 26 = .ok (.aload_n 0, 1) := by decide +kernel
theorem dX1_leastRent_27 : decode cX1_leastRent 27 = .ok (.getfield 17, 3) := by decide +kernel
theorem dX1_leastRent_30 : decode cX1_leastRent 30 = .ok (.iload 4, 2) := by decide +kernel
theorem dX1_leastRent_32 : decode cX1_leastRent 32 = .ok (.iaload, 1) := by decide +kernel
theorem dX1_leastRent_33 : decode cX1_leastRent 33 = .ok (.invokevirtual 60, 3) := by decide +kernel
theorem dX1_leastRent_36 : decode cX1_leastRent 36 = .ok (.aload_n 1, 1) := by decide +kernel
theorem dX1_leastRent_37 : decode cX1_leastRent 37 = .ok (.aload_n 0, 1) := by decide +kernel
theorem dX1_leastRent_38 : decode cX1_leastRent 38 = .ok (.getfield 17, 3) := by decide +kernel
theorem dX1_leastRent_41 : decode cX1_leastRent 41 = .ok (.iload_n 3, 1) := by decide +kernel
theorem dX1_leastRent_42 : decode cX1_leastRent 42 = .ok (.iaload, 1) := by decide +kernel
theorem dX1_leastRent_43 : decode cX1_leastRent 43 = .ok (.invokevirtual 60, 3) := by decide +kernel
theorem dX1_leastRent_46 : decode cX1_leastRent 46 = .ok (.if_icmp .ge 6, 3) := by decide +kernel
theorem dX1_leastRent_49 : decode cX1_leastRent 49 = .ok (.iload 4, 2) := by decide +kernel
theorem dX1_leastRent_51 : decode cX1_leastRent 51 = .ok (.istore_n 3, 1) := by decide +kernel
theorem dX1_leastRent_52 : decode cX1_leastRent 52 = .ok (.iinc 4 1, 3) := by decide +kernel
theorem dX1_leastRent_55 : decode cX1_leastRent 55 = .ok (.goto (-50), 3) := by decide +kernel
theorem dX1_leastRent_58 : decode cX1_leastRent 58 = .ok (.iload_n 3, 1) := by decide +kernel
theorem dX1_leastRent_59 : decode cX1_leastRent 59 = .ok (.ireturn, 1) := by decide +kernel
theorem dX1_standingAt_0 : decode cX1_standingAt 0 = .ok (.iload_n 1, 1) := by decide +kernel
theorem dX1_standingAt_1 : decode cX1_standingAt 1 = .ok (.ifCond .lt 20, 3) := by decide +kernel
theorem dX1_standingAt_4 : decode cX1_standingAt 4 = .ok (.iload_n 1, 1) := by decide +kernel
theorem dX1_standingAt_5 : decode cX1_standingAt 5 = .ok (.aload_n 0, 1) := by decide +kernel
theorem dX1_standingAt_6 : decode cX1_standingAt 6 = .ok (.getfield 9, 3) := by decide +kernel
theorem dX1_standingAt_9 : decode cX1_standingAt 9 = .ok (.if_icmp .ge 12, 3) := by decide +kernel
theorem dX1_standingAt_12 : decode cX1_standingAt 12 = .ok (.aload_n 0, 1) := by decide +kernel
theorem dX1_standingAt_13 : decode cX1_standingAt 13 = .ok (.getfield 17, 3) := by decide +kernel
theorem dX1_standingAt_16 : decode cX1_standingAt 16 = .ok (.iload_n 1, 1) := by decide +kernel
theorem dX1_standingAt_17 : decode cX1_standingAt 17 = .ok (.iaload, 1) := by decide +kernel
theorem dX1_standingAt_18 : decode cX1_standingAt 18 = .ok (.goto 4, 3) := by decide +kernel
theorem dX1_standingAt_21 : decode cX1_standingAt 21 = .ok (.iconst 0, 1) := by decide +kernel
theorem dX1_standingAt_22 : decode cX1_standingAt 22 = .ok (.ireturn, 1) := by decide +kernel
theorem dX1_stepsTo_0 : decode cX1_stepsTo 0 = .ok (.iload_n 1, 1) := by decide +kernel
theorem dX1_stepsTo_1 : decode cX1_stepsTo 1 = .ok (.ifCond .lt 20, 3) := by decide +kernel
theorem dX1_stepsTo_4 : decode cX1_stepsTo 4 = .ok (.iload_n 1, 1) := by decide +kernel
theorem dX1_stepsTo_5 : decode cX1_stepsTo 5 = .ok (.aload_n 0, 1) := by decide +kernel
theorem dX1_stepsTo_6 : decode cX1_stepsTo 6 = .ok (.getfield 9, 3) := by decide +kernel
theorem dX1_stepsTo_9 : decode cX1_stepsTo 9 = .ok (.if_icmp .ge 12, 3) := by decide +kernel
theorem dX1_stepsTo_12 : decode cX1_stepsTo 12 = .ok (.aload_n 0, 1) := by decide +kernel
theorem dX1_stepsTo_13 : decode cX1_stepsTo 13 = .ok (.getfield 21, 3) := by decide +kernel
theorem dX1_stepsTo_16 : decode cX1_stepsTo 16 = .ok (.iload_n 1, 1) := by decide +kernel
theorem dX1_stepsTo_17 : decode cX1_stepsTo 17 = .ok (.iaload, 1) := by decide +kernel
theorem dX1_stepsTo_18 : decode cX1_stepsTo 18 = .ok (.goto 4, 3) := by decide +kernel
theorem dX1_stepsTo_21 : decode cX1_stepsTo 21 = .ok (.iconst 0, 1) := by decide +kernel
theorem dX1_stepsTo_22 : decode cX1_stepsTo 22 = .ok (.ireturn, 1) := by decide +kernel
theorem dX1_setOf_0 : decode cX1_setOf 0 = .ok (.iload_n 2, 1) := by decide +kernel
theorem dX1_setOf_1 : decode cX1_setOf 1 = .ok (.ifCond .lt 12, 3) := by decide +kernel
theorem dX1_setOf_4 : decode cX1_setOf 4 = .ok (.iload_n 2, 1) := by decide +kernel
theorem dX1_setOf_5 : decode cX1_setOf 5 = .ok (.aload_n 0, 1) := by decide +kernel
theorem dX1_setOf_6 : decode cX1_setOf 6 = .ok (.iload_n 1, 1) := by decide +kernel
theorem dX1_setOf_7 : decode cX1_setOf 7 = .ok (.invokevirtual 63, 3) := by decide +kernel
theorem dX1_setOf_10 : decode cX1_setOf 10 = .ok (.if_icmp .lt 6, 3) := by decide +kernel
theorem dX1_setOf_13 : decode cX1_setOf 13 = .ok (.bipush (-5), 2) := by decide +kernel
theorem dX1_setOf_15 : decode cX1_setOf 15 = .ok (.ireturn, 1) := by decide +kernel
theorem dX1_setOf_16 : decode cX1_setOf 16 = .ok (.iload_n 1, 1) := by decide +kernel
theorem dX1_setOf_17 : decode cX1_setOf 17 = .ok (.istore_n 3, 1) := by decide +kernel
theorem dX1_setOf_18 : decode cX1_setOf 18 = .ok (.aload_n 0, 1) := by decide +kernel
theorem dX1_setOf_19 : decode cX1_setOf 19 = .ok (.iload_n 1, 1) := by decide +kernel
theorem dX1_setOf_20 : decode cX1_setOf 20 = .ok (.invokevirtual 63, 3) := by decide +kernel
theorem dX1_setOf_23 : decode cX1_setOf 23 = .ok (.iconst 1, 1) := by decide +kernel
theorem dX1_setOf_24 : decode cX1_setOf 24 = .ok (.isub, 1) := by decide +kernel
theorem dX1_setOf_25 : decode cX1_setOf 25 = .ok (.istore 4, 2) := by decide +kernel
theorem dX1_setOf_27 : decode cX1_setOf 27 = .ok (.iload 4, 2) := by decide +kernel
theorem dX1_setOf_29 : decode cX1_setOf 29 = .ok (.iload_n 2, 1) := by decide +kernel
theorem dX1_setOf_30 : decode cX1_setOf 30 = .ok (.if_icmp .le 16, 3) := by decide +kernel
theorem dX1_setOf_33 : decode cX1_setOf 33 = .ok (.aload_n 0, 1) := by decide +kernel
theorem dX1_setOf_34 : decode cX1_setOf 34 = .ok (.getfield 24, 3) := by decide +kernel
theorem dX1_setOf_37 : decode cX1_setOf 37 = .ok (.iload_n 3, 1) := by decide +kernel
theorem dX1_setOf_38 : decode cX1_setOf 38 = .ok (.iaload, 1) := by decide +kernel
theorem dX1_setOf_39 : decode cX1_setOf 39 = .ok (.istore_n 3, 1) := by decide +kernel
theorem dX1_setOf_40 : decode cX1_setOf 40 = .ok (.iinc 4 (-1), 3) := by decide +kernel
theorem dX1_setOf_43 : decode cX1_setOf 43 = .ok (.goto (-16), 3) := by decide +kernel
theorem dX1_setOf_46 : decode cX1_setOf 46 = .ok (.aload_n 0, 1) := by decide +kernel
theorem dX1_setOf_47 : decode cX1_setOf 47 = .ok (.getfield 27, 3) := by decide +kernel
theorem dX1_setOf_50 : decode cX1_setOf 50 = .ok (.iload_n 3, 1) := by decide +kernel
theorem dX1_setOf_51 : decode cX1_setOf 51 = .ok (.iaload, 1) := by decide +kernel
theorem dX1_setOf_52 : decode cX1_setOf 52 = .ok (.ireturn, 1) := by decide +kernel
theorem dX2_init_0 : decode cX2_init 0 = .ok (.aload_n 0, 1) := by decide +kernel
theorem dX2_init_1 : decode cX2_init 1 = .ok (.invokespecial 3, 3) := by decide +kernel
theorem dX2_init_4 : decode cX2_init 4 = .ok (.aload_n 0, 1) := by decide +kernel
theorem dX2_init_5 : decode cX2_init 5 = .ok (.sipush 201, 3) := by decide +kernel
theorem dX2_init_8 : decode cX2_init 8 = .ok (.newarray .int, 2) := by decide +kernel
theorem dX2_init_10 : decode cX2_init 10 = .ok (.putfield 9, 3) := by decide +kernel
theorem dX2_init_13 : decode cX2_init 13 = .ok (.aload_n 0, 1) := by decide +kernel
theorem dX2_init_14 : decode cX2_init 14 = .ok (.sipush 201, 3) := by decide +kernel
theorem dX2_init_17 : decode cX2_init 17 = .ok (.newarray .int, 2) := by decide +kernel
theorem dX2_init_19 : decode cX2_init 19 = .ok (.putfield 15, 3) := by decide +kernel
theorem dX2_init_22 : decode cX2_init 22 = .ok (.aload_n 0, 1) := by decide +kernel
theorem dX2_init_23 : decode cX2_init 23 = .ok (.sipush 201, 3) := by decide +kernel
theorem dX2_init_26 : decode cX2_init 26 = .ok (.newarray .int, 2) := by decide +kernel
theorem dX2_init_28 : decode cX2_init 28 = .ok (.putfield 18, 3) := by decide +kernel
theorem dX2_init_31 : decode cX2_init 31 = .ok (.return_, 1) := by decide +kernel
theorem dX2_readAll_0 : decode cX2_readAll 0 = .ok (.aload_n 0, 1) := by decide +kernel
theorem dX2_readAll_1 : decode cX2_readAll 1 = .ok (.aload_n 1, 1) := by decide +kernel
theorem dX2_readAll_2 : decode cX2_readAll 2 = .ok (.putfield 21, 3) := by decide +kernel
theorem dX2_readAll_5 : decode cX2_readAll 5 = .ok (.aload_n 0, 1) := by decide +kernel
theorem dX2_readAll_6 : decode cX2_readAll 6 = .ok (.iload_n 2, 1) := by decide +kernel
theorem dX2_readAll_7 : decode cX2_readAll 7 = .ok (.sipush 200, 3) := by decide +kernel
theorem dX2_readAll_10 : decode cX2_readAll 10 = .ok (.invokestatic 24, 3) := by decide +kernel
theorem dX2_readAll_13 : decode cX2_readAll 13 = .ok (.putfield 30, 3) := by decide +kernel
theorem dX2_readAll_16 : decode cX2_readAll 16 = .ok (.aload_n 0, 1) := by decide +kernel
theorem dX2_readAll_17 : decode cX2_readAll 17 = .ok (.invokevirtual 34, 3) := by decide +kernel
theorem dX2_readAll_20 : decode cX2_readAll 20 = .ok (.aload_n 0, 1) := by decide +kernel
theorem dX2_readAll_21 : decode cX2_readAll 21 = .ok (.iconst 0, 1) := by decide +kernel
theorem dX2_readAll_22 : decode cX2_readAll 22 = .ok (.putfield 37, 3) := by decide +kernel
theorem dX2_readAll_25 : decode cX2_readAll 25 = .ok (.aload_n 0, 1) := by decide +kernel
theorem dX2_readAll_26 : decode cX2_readAll 26 = .ok (.iconst (-1), 1) := by decide +kernel
theorem dX2_readAll_27 : decode cX2_readAll 27 = .ok (.putfield 40, 3) := by decide +kernel
theorem dX2_readAll_30 : decode cX2_readAll 30 = .ok (.aload_n 0, 1) := by decide +kernel
theorem dX2_readAll_31 : decode cX2_readAll 31 = .ok (.iconst 0, 1) := by decide +kernel
theorem dX2_readAll_32 : decode cX2_readAll 32 = .ok (.putfield 43, 3) := by decide +kernel
theorem dX2_readAll_35 : decode cX2_readAll 35 = .ok (.aload_n 3, 1) := by decide +kernel
theorem dX2_readAll_36 : decode cX2_readAll 36 = .ok (.invokevirtual 46, 3) := by decide +kernel
theorem dX2_readAll_39 : decode cX2_readAll 39 = .ok (.iconst 0, 1) := by decide +kernel
theorem dX2_readAll_40 : decode cX2_readAll 40 = .ok (.istore 4, 2) := by decide +kernel
theorem dX2_readAll_42 : decode cX2_readAll 42 = .ok (.iload 4, 2) := by decide +kernel
theorem dX2_readAll_44 : decode cX2_readAll 44 = .ok (.sipush 200, 3) := by decide +kernel
theorem dX2_readAll_47 : decode cX2_readAll 47 = .ok (.if_icmp .ge 33, 3) := by decide +kernel
theorem dX2_readAll_50 : decode cX2_readAll 50 = .ok (.aload_n 0, 1) := by decide +kernel
theorem dX2_readAll_51 : decode cX2_readAll 51 = .ok (.getfield 40, 3) := by decide +kernel
theorem dX2_readAll_54 : decode cX2_readAll 54 = .ok (.ifCond .ge 26, 3) := by decide +kernel
theorem dX2_readAll_57 : decode cX2_readAll 57 = .ok (.aload_n 0, 1) := by decide +kernel
theorem dX2_readAll_58 : decode cX2_readAll 58 = .ok (.getfield 9, 3) := by decide +kernel
theorem dX2_readAll_61 : decode cX2_readAll 61 = .ok (.aload_n 0, 1) := by decide +kernel
theorem dX2_readAll_62 : decode cX2_readAll 62 = .ok (.getfield 37, 3) := by decide +kernel
theorem dX2_readAll_65 : decode cX2_readAll 65 = .ok (.iaload, 1) := by decide +kernel
theorem dX2_readAll_66 : decode cX2_readAll 66 = .ok (.ifCond .eq 14, 3) := by decide +kernel
theorem dX2_readAll_69 : decode cX2_readAll 69 = .ok (.aload_n 0, 1) := by decide +kernel
theorem dX2_readAll_70 : decode cX2_readAll 70 = .ok (.aload_n 3, 1) := by decide +kernel
theorem dX2_readAll_71 : decode cX2_readAll 71 = .ok (.invokevirtual 51, 3) := by decide +kernel
theorem dX2_readAll_74 : decode cX2_readAll 74 = .ok (.iinc 4 1, 3) := by decide +kernel
theorem dX2_readAll_77 : decode cX2_readAll 77 = .ok (.goto (-35), 3) := by decide +kernel
theorem dX2_readAll_80 : decode cX2_readAll 80 = .ok (.aload_n 0, 1) := by decide +kernel
theorem dX2_readAll_81 : decode cX2_readAll 81 = .ok (.getfield 40, 3) := by decide +kernel
theorem dX2_readAll_84 : decode cX2_readAll 84 = .ok (.ifCond .lt 11, 3) := by decide +kernel
theorem dX2_readAll_87 : decode cX2_readAll 87 = .ok (.bipush (-10), 2) := by decide +kernel
theorem dX2_readAll_89 : decode cX2_readAll 89 = .ok (.aload_n 0, 1) := by decide +kernel
theorem dX2_readAll_90 : decode cX2_readAll 90 = .ok (.getfield 40, 3) := by decide +kernel
theorem dX2_readAll_93 : decode cX2_readAll 93 = .ok (.isub, 1) := by decide +kernel
theorem dX2_readAll_94 : decode cX2_readAll 94 = .ok (.ireturn, 1) := by decide +kernel
theorem dX2_readAll_95 : decode cX2_readAll 95 = .ok (.aload_n 3, 1) := by decide +kernel
theorem dX2_readAll_96 : decode cX2_readAll 96 = .ok (.invokevirtual 55, 3) := by decide +kernel
theorem dX2_readAll_99 : decode cX2_readAll 99 = .ok (.iload 4, 2) := by decide +kernel
theorem dX2_readAll_101 : decode cX2_readAll 101 = .ok (.ireturn, 1) := by decide +kernel
theorem dX2_readItem_0 : decode cX2_readItem 0 = .ok (.aload_n 0, 1) := by decide +kernel
theorem dX2_readItem_1 : decode cX2_readItem 1 = .ok (.getfield 9, 3) := by decide +kernel
theorem dX2_readItem_4 : decode cX2_readItem 4 = .ok (.aload_n 0, 1) := by decide +kernel
theorem dX2_readItem_5 : decode cX2_readItem 5 = .ok (.getfield 37, 3) := by decide +kernel
theorem dX2_readItem_8 : decode cX2_readItem 8 = .ok (.iaload, 1) := by decide +kernel
theorem dX2_readItem_9 : decode cX2_readItem 9 = .ok (.tableswitch 110 4 9 #[39, 47, 55, 68, 82, 96], 39) := by decide +kernel
theorem dX2_readItem_48 : decode cX2_readItem 48 = .ok (.aload_n 0, 1) := by decide +kernel
theorem dX2_readItem_49 : decode cX2_readItem 49 = .ok (.aload_n 1, 1) := by decide +kernel
theorem dX2_readItem_50 : decode cX2_readItem 50 = .ok (.invokevirtual 58, 3) := by decide +kernel
theorem dX2_readItem_53 : decode cX2_readItem 53 = .ok (.goto 70, 3) := by decide +kernel
theorem dX2_readItem_56 : decode cX2_readItem 56 = .ok (.aload_n 0, 1) := by decide +kernel
theorem dX2_readItem_57 : decode cX2_readItem 57 = .ok (.aload_n 1, 1) := by decide +kernel
theorem dX2_readItem_58 : decode cX2_readItem 58 = .ok (.invokevirtual 61, 3) := by decide +kernel
theorem dX2_readItem_61 : decode cX2_readItem 61 = .ok (.goto 62, 3) := by decide +kernel
theorem dX2_readItem_64 : decode cX2_readItem 64 = .ok (.aload_n 1, 1) := by decide +kernel
theorem dX2_readItem_65 : decode cX2_readItem 65 = .ok (.aload_n 0, 1) := by decide +kernel
theorem dX2_readItem_66 : decode cX2_readItem 66 = .ok (.iconst 0, 1) := by decide +kernel
theorem dX2_readItem_67 : decode cX2_readItem 67 = .ok (.iconst 1, 1) := by decide +kernel
theorem dX2_readItem_68 : decode cX2_readItem 68 = .ok (.invokevirtual 64, 3) := by decide +kernel
theorem dX2_readItem_71 : decode cX2_readItem 71 = .ok (.invokevirtual 67, 3) := by decide +kernel
theorem dX2_readItem_74 : decode cX2_readItem 74 = .ok (.goto 49, 3) := by decide +kernel
theorem dX2_readItem_77 : decode cX2_readItem 77 = .ok (.aload_n 1, 1) := by decide +kernel
theorem dX2_readItem_78 : decode cX2_readItem 78 = .ok (.aload_n 0, 1) := by decide +kernel
theorem dX2_readItem_79 : decode cX2_readItem 79 = .ok (.iconst 1, 1) := by decide +kernel
theorem dX2_readItem_80 : decode cX2_readItem 80 = .ok (.bipush 20, 2) := by decide +kernel
theorem dX2_readItem_82 : decode cX2_readItem 82 = .ok (.invokevirtual 64, 3) := by decide +kernel
theorem dX2_readItem_85 : decode cX2_readItem 85 = .ok (.putfield 71, 3) := by decide +kernel
theorem dX2_readItem_88 : decode cX2_readItem 88 = .ok (.goto 35, 3) := by decide +kernel
theorem dX2_readItem_91 : decode cX2_readItem 91 = .ok (.aload_n 1, 1) := by decide +kernel
theorem dX2_readItem_92 : decode cX2_readItem 92 = .ok (.aload_n 0, 1) := by decide +kernel
theorem dX2_readItem_93 : decode cX2_readItem 93 = .ok (.iconst 0, 1) := by decide +kernel
theorem dX2_readItem_94 : decode cX2_readItem 94 = .ok (.bipush 20, 2) := by decide +kernel
theorem dX2_readItem_96 : decode cX2_readItem 96 = .ok (.invokevirtual 64, 3) := by decide +kernel
theorem dX2_readItem_99 : decode cX2_readItem 99 = .ok (.putfield 74, 3) := by decide +kernel
theorem dX2_readItem_102 : decode cX2_readItem 102 = .ok (.goto 21, 3) := by decide +kernel
theorem dX2_readItem_105 : decode cX2_readItem 105 = .ok (.aload_n 1, 1) := by decide +kernel
theorem dX2_readItem_106 : decode cX2_readItem 106 = .ok (.aload_n 0, 1) := by decide +kernel
theorem dX2_readItem_107 : decode cX2_readItem 107 = .ok (.iconst 0, 1) := by decide +kernel
theorem dX2_readItem_108 : decode cX2_readItem 108 = .ok (.bipush 9, 2) := by decide +kernel
theorem dX2_readItem_110 : decode cX2_readItem 110 = .ok (.invokevirtual 64, 3) := by decide +kernel
theorem dX2_readItem_113 : decode cX2_readItem 113 = .ok (.putfield 77, 3) := by decide +kernel
theorem dX2_readItem_116 : decode cX2_readItem 116 = .ok (.goto 7, 3) := by decide +kernel
theorem dX2_readItem_119 : decode cX2_readItem 119 = .ok (.aload_n 0, 1) := by decide +kernel
theorem dX2_readItem_120 : decode cX2_readItem 120 = .ok (.invokevirtual 80, 3) := by decide +kernel
theorem dX2_readItem_123 : decode cX2_readItem 123 = .ok (.return_, 1) := by decide +kernel
theorem dX2_readThing_0 : decode cX2_readThing 0 = .ok (.aload_n 1, 1) := by decide +kernel
theorem dX2_readThing_1 : decode cX2_readThing 1 = .ok (.getfield 83, 3) := by decide +kernel
theorem dX2_readThing_4 : decode cX2_readThing 4 = .ok (.bipush 7, 2) := by decide +kernel
theorem dX2_readThing_6 : decode cX2_readThing 6 = .ok (.if_icmp .lt 8, 3) := by decide +kernel
theorem dX2_readThing_9 : decode cX2_readThing 9 = .ok (.aload_n 0, 1) := by decide +kernel
theorem dX2_readThing_10 : decode cX2_readThing 10 = .ok (.invokevirtual 80, 3) := by decide +kernel
theorem dX2_readThing_13 : decode cX2_readThing 13 = .ok (.return_, 1) := by decide +kernel
theorem dX2_readThing_14 : decode cX2_readThing 14 = .ok (.aload_n 0, 1) := by decide +kernel
theorem dX2_readThing_15 : decode cX2_readThing 15 = .ok (.invokevirtual 86, 3) := by decide +kernel
theorem dX2_readThing_18 : decode cX2_readThing 18 = .ok (.aload_n 0, 1) := by decide +kernel
theorem dX2_readThing_19 : decode cX2_readThing 19 = .ok (.iconst 0, 1) := by decide +kernel
theorem dX2_readThing_20 : decode cX2_readThing 20 = .ok (.iconst 1, 1) := by decide +kernel
theorem dX2_readThing_21 : decode cX2_readThing 21 = .ok (.invokevirtual 89, 3) := by decide +kernel
theorem dX2_readThing_24 : decode cX2_readThing 24 = .ok (.istore_n 2, 1) := by decide +kernel
theorem dX2_readThing_25 : decode cX2_readThing 25 = .ok (.aload_n 0, 1) := by decide +kernel
theorem dX2_readThing_26 : decode cX2_readThing 26 = .ok (.iconst 0, 1) := by decide +kernel
theorem dX2_readThing_27 : decode cX2_readThing 27 = .ok (.iconst 2, 1) := by decide +kernel
theorem dX2_readThing_28 : decode cX2_readThing 28 = .ok (.invokevirtual 89, 3) := by decide +kernel
theorem dX2_readThing_31 : decode cX2_readThing 31 = .ok (.istore_n 3, 1) := by decide +kernel
theorem dX2_readThing_32 : decode cX2_readThing 32 = .ok (.aload_n 0, 1) := by decide +kernel
theorem dX2_readThing_33 : decode cX2_readThing 33 = .ok (.iconst 0, 1) := by decide +kernel
theorem dX2_readThing_34 : decode cX2_readThing 34 = .ok (.bipush 9, 2) := by decide +kernel
theorem dX2_readThing_36 : decode cX2_readThing 36 = .ok (.invokevirtual 89, 3) := by decide +kernel
theorem dX2_readThing_39 : decode cX2_readThing 39 = .ok (.istore 4, 2) := by decide +kernel
theorem dX2_readThing_41 : decode cX2_readThing 41 = .ok (.aload_n 0, 1) := by decide +kernel
theorem dX2_readThing_42 : decode cX2_readThing 42 = .ok (.iconst 1, 1) := by decide +kernel
theorem dX2_readThing_43 : decode cX2_readThing 43 = .ok (.bipush 9, 2) := by decide +kernel
theorem dX2_readThing_45 : decode cX2_readThing 45 = .ok (.invokevirtual 89, 3) := by decide +kernel
theorem dX2_readThing_48 : decode cX2_readThing 48 = .ok (.istore 5, 2) := by decide +kernel
theorem dX2_readThing_50 : decode cX2_readThing 50 = .ok (.aload_n 0, 1) := by decide +kernel
theorem dX2_readThing_51 : decode cX2_readThing 51 = .ok (.invokevirtual 92, 3) := by decide +kernel
theorem dX2_readThing_54 : decode cX2_readThing 54 = .ok (.aload_n 0, 1) := by decide +kernel
theorem dX2_readThing_55 : decode cX2_readThing 55 = .ok (.getfield 40, 3) := by decide +kernel
theorem dX2_readThing_58 : decode cX2_readThing 58 = .ok (.ifCond .ge 13, 3) := by decide +kernel
theorem dX2_readThing_61 : decode cX2_readThing 61 = .ok (.aload_n 1, 1) := by decide +kernel
theorem dX2_readThing_62 : decode cX2_readThing 62 = .ok (.iload_n 2, 1) := by decide +kernel
theorem dX2_readThing_63 : decode cX2_readThing 63 = .ok (.iload_n 3, 1) := by decide +kernel
theorem dX2_readThing_64 : decode cX2_readThing 64 = .ok (.iload 4, 2) := by decide +kernel
theorem dX2_readThing_66 : decode cX2_readThing 66 = .ok (.iload 5, 2) := by decide +kernel
theorem dX2_readThing_68 : decode cX2_readThing 68 = .ok (.invokevirtual 95, 3) := by decide +kernel
theorem dX2_readThing_71 : decode cX2_readThing 71 = .ok (.return_, 1) := by decide +kernel
theorem dX2_readFears_0 : decode cX2_readFears 0 = .ok (.aload_n 1, 1) := by decide +kernel
theorem dX2_readFears_1 : decode cX2_readFears 1 = .ok (.getfield 99, 3) := by decide +kernel
theorem dX2_readFears_4 : decode cX2_readFears 4 = .ok (.bipush 8, 2) := by decide +kernel
theorem dX2_readFears_6 : decode cX2_readFears 6 = .ok (.if_icmp .lt 8, 3) := by decide +kernel
theorem dX2_readFears_9 : decode cX2_readFears 9 = .ok (.aload_n 0, 1) := by decide +kernel
theorem dX2_readFears_10 : decode cX2_readFears 10 = .ok (.invokevirtual 80, 3) := by decide +kernel
theorem dX2_readFears_13 : decode cX2_readFears 13 = .ok (.return_, 1) := by decide +kernel
theorem dX2_readFears_14 : decode cX2_readFears 14 = .ok (.aload_n 0, 1) := by decide +kernel
theorem dX2_readFears_15 : decode cX2_readFears 15 = .ok (.invokevirtual 86, 3) := by decide +kernel
theorem dX2_readFears_18 : decode cX2_readFears 18 = .ok (.aload_n 0, 1) := by decide +kernel
theorem dX2_readFears_19 : decode cX2_readFears 19 = .ok (.iconst 0, 1) := by decide +kernel
theorem dX2_readFears_20 : decode cX2_readFears 20 = .ok (.aload_n 1, 1) := by decide +kernel
theorem dX2_readFears_21 : decode cX2_readFears 21 = .ok (.getfield 83, 3) := by decide +kernel
theorem dX2_readFears_24 : decode cX2_readFears 24 = .ok (.iconst 1, 1) := by decide +kernel
theorem dX2_readFears_25 : decode cX2_readFears 25 = .ok (.isub, 1) := by decide +kernel
theorem dX2_readFears_26 : decode cX2_readFears 26 = .ok (.invokevirtual 89, 3) := by decide +kernel
theorem dX2_readFears_29 : decode cX2_readFears 29 = .ok (.istore_n 2, 1) := by decide +kernel
theorem dX2_readFears_30 : decode cX2_readFears 30 = .ok (.aload_n 0, 1) := by decide +kernel
theorem dX2_readFears_31 : decode cX2_readFears 31 = .ok (.getfield 9, 3) := by decide +kernel
theorem dX2_readFears_34 : decode cX2_readFears 34 = .ok (.aload_n 0, 1) := by decide +kernel
theorem dX2_readFears_35 : decode cX2_readFears 35 = .ok (.getfield 37, 3) := by decide +kernel
theorem dX2_readFears_38 : decode cX2_readFears 38 = .ok (.iaload, 1) := by decide +kernel
theorem dX2_readFears_39 : decode cX2_readFears 39 = .ok (.iconst 1, 1) := by decide +kernel
theorem dX2_readFears_40 : decode cX2_readFears 40 = .ok (.if_icmp .ne 20, 3) := by decide +kernel
theorem dX2_readFears_43 : decode cX2_readFears 43 = .ok (.aload_n 0, 1) := by decide +kernel
theorem dX2_readFears_44 : decode cX2_readFears 44 = .ok (.getfield 18, 3) := by decide +kernel
theorem dX2_readFears_47 : decode cX2_readFears 47 = .ok (.aload_n 0, 1) := by decide +kernel
theorem dX2_readFears_48 : decode cX2_readFears 48 = .ok (.getfield 37, 3) := by decide +kernel
theorem dX2_readFears_51 : decode cX2_readFears 51 = .ok (.iaload, 1) := by decide +kernel
theorem dX2_readFears_52 : decode cX2_readFears 52 = .ok (.iload_n 2, 1) := by decide +kernel
theorem dX2_readFears_53 : decode cX2_readFears 53 = .ok (.if_icmp .ne 7, 3) := by decide +kernel
theorem dX2_readFears_56 : decode cX2_readFears 56 = .ok (.aload_n 0, 1) := by decide +kernel
theorem dX2_readFears_57 : decode cX2_readFears 57 = .ok (.invokevirtual 80, 3) := by decide +kernel
theorem dX2_readFears_60 : decode cX2_readFears 60 = .ok (.aload_n 0, 1) := by decide +kernel
theorem dX2_readFears_61 : decode cX2_readFears 61 = .ok (.iconst 0, 1) := by decide +kernel
theorem dX2_readFears_62 : decode cX2_readFears 62 = .ok (.aload_n 1, 1) := by decide +kernel
theorem dX2_readFears_63 : decode cX2_readFears 63 = .ok (.getfield 83, 3) := by decide +kernel
theorem dX2_readFears_66 : decode cX2_readFears 66 = .ok (.iconst 1, 1) := by decide +kernel
theorem dX2_readFears_67 : decode cX2_readFears 67 = .ok (.isub, 1) := by decide +kernel
theorem dX2_readFears_68 : decode cX2_readFears 68 = .ok (.invokevirtual 89, 3) := by decide +kernel
theorem dX2_readFears_71 : decode cX2_readFears 71 = .ok (.istore_n 3, 1) := by decide +kernel
theorem dX2_readFears_72 : decode cX2_readFears 72 = .ok (.aload_n 0, 1) := by decide +kernel
theorem dX2_readFears_73 : decode cX2_readFears 73 = .ok (.invokevirtual 92, 3) := by decide +kernel
theorem dX2_readFears_76 : decode cX2_readFears 76 = .ok (.aload_n 0, 1) := by decide +kernel
theorem dX2_readFears_77 : decode cX2_readFears 77 = .ok (.getfield 40, 3) := by decide +kernel
theorem dX2_readFears_80 : decode cX2_readFears 80 = .ok (.ifCond .ge 9, 3) := by decide +kernel
theorem dX2_readFears_83 : decode cX2_readFears 83 = .ok (.aload_n 1, 1) := by decide +kernel
theorem dX2_readFears_84 : decode cX2_readFears 84 = .ok (.iload_n 2, 1) := by decide +kernel
theorem dX2_readFears_85 : decode cX2_readFears 85 = .ok (.iload_n 3, 1) := by decide +kernel
theorem dX2_readFears_86 : decode cX2_readFears 86 = .ok (.invokevirtual 102, 3) := by decide +kernel
theorem dX2_readFears_89 : decode cX2_readFears 89 = .ok (.return_, 1) := by decide +kernel
theorem dX2_readOnce_0 : decode cX2_readOnce 0 = .ok (.iconst 1, 1) := by decide +kernel
theorem dX2_readOnce_1 : decode cX2_readOnce 1 = .ok (.aload_n 0, 1) := by decide +kernel
theorem dX2_readOnce_2 : decode cX2_readOnce 2 = .ok (.getfield 9, 3) := by decide +kernel
theorem dX2_readOnce_5 : decode cX2_readOnce 5 = .ok (.aload_n 0, 1) := by decide +kernel
theorem dX2_readOnce_6 : decode cX2_readOnce 6 = .ok (.getfield 37, 3) := by decide +kernel
theorem dX2_readOnce_9 : decode cX2_readOnce 9 = .ok (.iaload, 1) := by decide +kernel
theorem dX2_readOnce_10 : decode cX2_readOnce 10 = .ok (.ishl, 1) := by decide +kernel
theorem dX2_readOnce_11 : decode cX2_readOnce 11 = .ok (.istore_n 3, 1) := by decide +kernel
theorem dX2_readOnce_12 : decode cX2_readOnce 12 = .ok (.aload_n 0, 1) := by decide +kernel
theorem dX2_readOnce_13 : decode cX2_readOnce 13 = .ok (.getfield 43, 3) := by decide +kernel
theorem dX2_readOnce_16 : decode cX2_readOnce 16 = .ok (.iload_n 3, 1) := by decide +kernel
theorem dX2_readOnce_17 : decode cX2_readOnce 17 = .ok (.iand, 1) := by decide +kernel
theorem dX2_readOnce_18 : decode cX2_readOnce 18 = .ok (.ifCond .eq 7, 3) := by decide +kernel
theorem dX2_readOnce_21 : decode cX2_readOnce 21 = .ok (.aload_n 0, 1) := by decide +kernel
theorem dX2_readOnce_22 : decode cX2_readOnce 22 = .ok (.invokevirtual 80, 3) := by decide +kernel
theorem dX2_readOnce_25 : decode cX2_readOnce 25 = .ok (.aload_n 0, 1) := by decide +kernel
theorem dX2_readOnce_26 : decode cX2_readOnce 26 = .ok (.dup, 1) := by decide +kernel
theorem dX2_readOnce_27 : decode cX2_readOnce 27 = .ok (.getfield 43, 3) := by decide +kernel
theorem dX2_readOnce_30 : decode cX2_readOnce 30 = .ok (.iload_n 3, 1) := by decide +kernel
theorem dX2_readOnce_31 : decode cX2_readOnce 31 = .ok (.ior, 1) := by decide +kernel
theorem dX2_readOnce_32 : decode cX2_readOnce 32 = .ok (.putfield 43, 3) := by decide +kernel
theorem dX2_readOnce_35 : decode cX2_readOnce 35 = .ok (.aload_n 0, 1) := by decide +kernel
theorem dX2_readOnce_36 : decode cX2_readOnce 36 = .ok (.invokevirtual 86, 3) := by decide +kernel
theorem dX2_readOnce_39 : decode cX2_readOnce 39 = .ok (.aload_n 0, 1) := by decide +kernel
theorem dX2_readOnce_40 : decode cX2_readOnce 40 = .ok (.iload_n 1, 1) := by decide +kernel
theorem dX2_readOnce_41 : decode cX2_readOnce 41 = .ok (.iload_n 2, 1) := by decide +kernel
theorem dX2_readOnce_42 : decode cX2_readOnce 42 = .ok (.invokevirtual 89, 3) := by decide +kernel
theorem dX2_readOnce_45 : decode cX2_readOnce 45 = .ok (.istore 4, 2) := by decide +kernel
theorem dX2_readOnce_47 : decode cX2_readOnce 47 = .ok (.aload_n 0, 1) := by decide +kernel
theorem dX2_readOnce_48 : decode cX2_readOnce 48 = .ok (.invokevirtual 92, 3) := by decide +kernel
theorem dX2_readOnce_51 : decode cX2_readOnce 51 = .ok (.iload 4, 2) := by decide +kernel
theorem dX2_readOnce_53 : decode cX2_readOnce 53 = .ok (.ireturn, 1) := by decide +kernel
theorem dX2_readNumber_0 : decode cX2_readNumber 0 = .ok (.aload_n 0, 1) := by decide +kernel
theorem dX2_readNumber_1 : decode cX2_readNumber 1 = .ok (.getfield 18, 3) := by decide +kernel
theorem dX2_readNumber_4 : decode cX2_readNumber 4 = .ok (.aload_n 0, 1) := by decide +kernel
theorem dX2_readNumber_5 : decode cX2_readNumber 5 = .ok (.getfield 37, 3) := by decide +kernel
theorem dX2_readNumber_8 : decode cX2_readNumber 8 = .ok (.iaload, 1) := by decide +kernel
theorem dX2_readNumber_9 : decode cX2_readNumber 9 = .ok (.istore_n 3, 1) := by decide +kernel
theorem dX2_readNumber_10 : decode cX2_readNumber 10 = .ok (.aload_n 0, 1) := by decide +kernel
theorem dX2_readNumber_11 : decode cX2_readNumber 11 = .ok (.getfield 9, 3) := by decide +kernel
theorem dX2_readNumber_14 : decode cX2_readNumber 14 = .ok (.aload_n 0, 1) := by decide +kernel
theorem dX2_readNumber_15 : decode cX2_readNumber 15 = .ok (.getfield 37, 3) := by decide +kernel
theorem dX2_readNumber_18 : decode cX2_readNumber 18 = .ok (.iaload, 1) := by decide +kernel
theorem dX2_readNumber_19 : decode cX2_readNumber 19 = .ok (.iconst 1, 1) := by decide +kernel
theorem dX2_readNumber_20 : decode cX2_readNumber 20 = .ok (.if_icmp .ne 13, 3) := by decide +kernel
theorem dX2_readNumber_23 : decode cX2_readNumber 23 = .ok (.iload_n 3, 1) := by decide +kernel
theorem dX2_readNumber_24 : decode cX2_readNumber 24 = .ok (.iload_n 1, 1) := by decide +kernel
theorem dX2_readNumber_25 : decode cX2_readNumber 25 = .ok (.if_icmp .lt 8, 3) := by decide +kernel
theorem dX2_readNumber_28 : decode cX2_readNumber 28 = .ok (.iload_n 3, 1) := by decide +kernel
theorem dX2_readNumber_29 : decode cX2_readNumber 29 = .ok (.iload_n 2, 1) := by decide +kernel
theorem dX2_readNumber_30 : decode cX2_readNumber 30 = .ok (.if_icmp .le 9, 3) := by decide +kernel
theorem dX2_readNumber_33 : decode cX2_readNumber 33 = .ok (.aload_n 0, 1) := by decide +kernel
theorem dX2_readNumber_34 : decode cX2_readNumber 34 = .ok (.invokevirtual 80, 3) := by decide +kernel
theorem dX2_readNumber_37 : decode cX2_readNumber 37 = .ok (.iload_n 1, 1) := by decide +kernel
theorem dX2_readNumber_38 : decode cX2_readNumber 38 = .ok (.ireturn, 1) := by decide +kernel
theorem dX2_readNumber_39 : decode cX2_readNumber 39 = .ok (.aload_n 0, 1) := by decide +kernel
theorem dX2_readNumber_40 : decode cX2_readNumber 40 = .ok (.invokevirtual 86, 3) := by decide +kernel
theorem dX2_readNumber_43 : decode cX2_readNumber 43 = .ok (.iload_n 3, 1) := by decide +kernel
theorem dX2_readNumber_44 : decode cX2_readNumber 44 = .ok (.ireturn, 1) := by decide +kernel
theorem dX2_readStop_0 : decode cX2_readStop 0 = .ok (.aload_n 0, 1) := by decide +kernel
theorem dX2_readStop_1 : decode cX2_readStop 1 = .ok (.getfield 9, 3) := by decide +kernel
theorem dX2_readStop_4 : decode cX2_readStop 4 = .ok (.aload_n 0, 1) := by decide +kernel
theorem dX2_readStop_5 : decode cX2_readStop 5 = .ok (.getfield 37, 3) := by decide +kernel
theorem dX2_readStop_8 : decode cX2_readStop 8 = .ok (.iaload, 1) := by decide +kernel
theorem dX2_readStop_9 : decode cX2_readStop 9 = .ok (.iconst 2, 1) := by decide +kernel
theorem dX2_readStop_10 : decode cX2_readStop 10 = .ok (.if_icmp .eq 8, 3) := by decide +kernel
theorem dX2_readStop_13 : decode cX2_readStop 13 = .ok (.aload_n 0, 1) := by decide +kernel
theorem dX2_readStop_14 : decode cX2_readStop 14 = .ok (.invokevirtual 80, 3) := by decide +kernel
theorem dX2_readStop_17 : decode cX2_readStop 17 = .ok (.return_, 1) := by decide +kernel
theorem dX2_readStop_18 : decode cX2_readStop 18 = .ok (.aload_n 0, 1) := by decide +kernel
theorem dX2_readStop_19 : decode cX2_readStop 19 = .ok (.invokevirtual 86, 3) := by decide +kernel
theorem dX2_readStop_22 : decode cX2_readStop 22 = .ok (.return_, 1) := by decide +kernel
theorem dX2_advance_0 : decode cX2_advance 0 = .ok (.aload_n 0, 1) := by decide +kernel
theorem dX2_advance_1 : decode cX2_advance 1 = .ok (.getfield 37, 3) := by decide +kernel
theorem dX2_advance_4 : decode cX2_advance 4 = .ok (.sipush 200, 3) := by decide +kernel
theorem dX2_advance_7 : decode cX2_advance 7 = .ok (.if_icmp .ge 13, 3) := by decide +kernel
theorem dX2_advance_10 : decode cX2_advance 10 = .ok (.aload_n 0, 1) := by decide +kernel
theorem dX2_advance_11 : decode cX2_advance 11 = .ok (.dup, 1) := by decide +kernel
theorem dX2_advance_12 : decode cX2_advance 12 = .ok (.getfield 37, 3) := by decide +kernel
theorem dX2_advance_15 : decode cX2_advance 15 = .ok (.iconst 1, 1) := by decide +kernel
theorem dX2_advance_16 : decode cX2_advance 16 = .ok (.iadd, 1) := by decide +kernel
theorem dX2_advance_17 : decode cX2_advance 17 = .ok (.putfield 37, 3) := by decide +kernel
theorem dX2_advance_20 : decode cX2_advance 20 = .ok (.return_, 1) := by decide +kernel
theorem dX2_fail_0 : decode cX2_fail 0 = .ok (.aload_n 0, 1) := by decide +kernel
theorem dX2_fail_1 : decode cX2_fail 1 = .ok (.getfield 40, 3) := by decide +kernel
theorem dX2_fail_4 : decode cX2_fail 4 = .ok (.ifCond .ge 16, 3) := by decide +kernel
theorem dX2_fail_7 : decode cX2_fail 7 = .ok (.aload_n 0, 1) := by decide +kernel
theorem dX2_fail_8 : decode cX2_fail 8 = .ok (.aload_n 0, 1) := by decide +kernel
theorem dX2_fail_9 : decode cX2_fail 9 = .ok (.getfield 15, 3) := by decide +kernel
theorem dX2_fail_12 : decode cX2_fail 12 = .ok (.aload_n 0, 1) := by decide +kernel
theorem dX2_fail_13 : decode cX2_fail 13 = .ok (.getfield 37, 3) := by decide +kernel
theorem dX2_fail_16 : decode cX2_fail 16 = .ok (.iaload, 1) := by decide +kernel
theorem dX2_fail_17 : decode cX2_fail 17 = .ok (.putfield 40, 3) := by decide +kernel
theorem dX2_fail_20 : decode cX2_fail 20 = .ok (.return_, 1) := by decide +kernel
theorem dX2_split_0 : decode cX2_split 0 = .ok (.iconst 0, 1) := by decide +kernel
theorem dX2_split_1 : decode cX2_split 1 = .ok (.istore_n 1, 1) := by decide +kernel
theorem dX2_split_2 : decode cX2_split 2 = .ok (.aload_n 0, 1) := by decide +kernel
theorem dX2_split_3 : decode cX2_split 3 = .ok (.iconst 0, 1) := by decide +kernel
theorem dX2_split_4 : decode cX2_split 4 = .ok (.invokevirtual 106, 3) := by decide +kernel
theorem dX2_split_7 : decode cX2_split 7 = .ok (.istore_n 2, 1) := by decide +kernel
theorem dX2_split_8 : decode cX2_split 8 = .ok (.iload_n 1, 1) := by decide +kernel
theorem dX2_split_9 : decode cX2_split 9 = .ok (.sipush 200, 3) := by decide +kernel
theorem dX2_split_12 : decode cX2_split 12 = .ok (.if_icmp .ge 74, 3) := by decide +kernel
theorem dX2_split_15 : decode cX2_split 15 = .ok (.iload_n 2, 1) := by decide +kernel
theorem dX2_split_16 : decode cX2_split 16 = .ok (.aload_n 0, 1) := by decide +kernel
theorem dX2_split_17 : decode cX2_split 17 = .ok (.getfield 30, 3) := by decide +kernel
theorem dX2_split_20 : decode cX2_split 20 = .ok (.if_icmp .ge 66, 3) := by decide +kernel
theorem dX2_split_23 : decode cX2_split 23 = .ok (.aload_n 0, 1) := by decide +kernel
theorem dX2_split_24 : decode cX2_split 24 = .ok (.iload_n 2, 1) := by decide +kernel
theorem dX2_split_25 : decode cX2_split 25 = .ok (.invokevirtual 110, 3) := by decide +kernel
theorem dX2_split_28 : decode cX2_split 28 = .ok (.istore_n 3, 1) := by decide +kernel
theorem dX2_split_29 : decode cX2_split 29 = .ok (.aload_n 0, 1) := by decide +kernel
theorem dX2_split_30 : decode cX2_split 30 = .ok (.getfield 15, 3) := by decide +kernel
theorem dX2_split_33 : decode cX2_split 33 = .ok (.iload_n 1, 1) := by decide +kernel
theorem dX2_split_34 : decode cX2_split 34 = .ok (.iload_n 2, 1) := by decide +kernel
theorem dX2_split_35 : decode cX2_split 35 = .ok (.iastore, 1) := by decide +kernel
theorem dX2_split_36 : decode cX2_split 36 = .ok (.aload_n 0, 1) := by decide +kernel
theorem dX2_split_37 : decode cX2_split 37 = .ok (.getfield 9, 3) := by decide +kernel
theorem dX2_split_40 : decode cX2_split 40 = .ok (.iload_n 1, 1) := by decide +kernel
theorem dX2_split_41 : decode cX2_split 41 = .ok (.aload_n 0, 1) := by decide +kernel
theorem dX2_split_42 : decode cX2_split 42 = .ok (.iload_n 2, 1) := by decide +kernel
theorem dX2_split_43 : decode cX2_split 43 = .ok (.iload_n 3, 1) := by decide +kernel
theorem dX2_split_44 : decode cX2_split 44 = .ok (.invokevirtual 113, 3) := by decide +kernel
theorem dX2_split_47 : decode cX2_split 47 = .ok (.iastore, 1) := by decide +kernel
theorem dX2_split_48 : decode cX2_split 48 = .ok (.aload_n 0, 1) := by decide +kernel
theorem dX2_split_49 : decode cX2_split 49 = .ok (.getfield 18, 3) := by decide +kernel
theorem dX2_split_52 : decode cX2_split 52 = .ok (.iload_n 1, 1) := by decide +kernel
theorem dX2_split_53 : decode cX2_split 53 = .ok (.aload_n 0, 1) := by decide +kernel
theorem dX2_split_54 : decode cX2_split 54 = .ok (.getfield 9, 3) := by decide +kernel
theorem dX2_split_57 : decode cX2_split 57 = .ok (.iload_n 1, 1) := by decide +kernel
theorem dX2_split_58 : decode cX2_split 58 = .ok (.iaload, 1) := by decide +kernel
theorem dX2_split_59 : decode cX2_split 59 = .ok (.iconst 1, 1) := by decide +kernel
theorem dX2_split_60 : decode cX2_split 60 = .ok (.if_icmp .ne 12, 3) := by decide +kernel
theorem dX2_split_63 : decode cX2_split 63 = .ok (.aload_n 0, 1) := by decide +kernel
theorem dX2_split_64 : decode cX2_split 64 = .ok (.iload_n 2, 1) := by decide +kernel
theorem dX2_split_65 : decode cX2_split 65 = .ok (.iload_n 3, 1) := by decide +kernel
theorem dX2_split_66 : decode cX2_split 66 = .ok (.invokevirtual 116, 3) := by decide +kernel
theorem dX2_split_69 : decode cX2_split 69 = .ok (.goto 4, 3) := by decide +kernel
theorem dX2_split_72 : decode cX2_split 72 = .ok (.iconst 0, 1) := by decide +kernel
theorem dX2_split_73 : decode cX2_split 73 = .ok (.iastore, 1) := by decide +kernel
theorem dX2_split_74 : decode cX2_split 74 = .ok (.iinc 1 1, 3) := by decide +kernel
theorem dX2_split_77 : decode cX2_split 77 = .ok (.aload_n 0, 1) := by decide +kernel
theorem dX2_split_78 : decode cX2_split 78 = .ok (.iload_n 3, 1) := by decide +kernel
theorem dX2_split_79 : decode cX2_split 79 = .ok (.invokevirtual 106, 3) := by decide +kernel
theorem dX2_split_82 : decode cX2_split 82 = .ok (.istore_n 2, 1) := by decide +kernel
theorem dX2_split_83 : decode cX2_split 83 = .ok (.goto (-75), 3) := by decide +kernel
theorem dX2_split_86 : decode cX2_split 86 = .ok (.aload_n 0, 1) := by decide +kernel
theorem dX2_split_87 : decode cX2_split 87 = .ok (.getfield 15, 3) := by decide +kernel
theorem dX2_split_90 : decode cX2_split 90 = .ok (.iload_n 1, 1) := by decide +kernel
theorem dX2_split_91 : decode cX2_split 91 = .ok (.aload_n 0, 1) := by decide +kernel
theorem dX2_split_92 : decode cX2_split 92 = .ok (.getfield 30, 3) := by decide +kernel
theorem dX2_split_95 : decode cX2_split 95 = .ok (.iastore, 1) := by decide +kernel
theorem dX2_split_96 : decode cX2_split 96 = .ok (.aload_n 0, 1) := by decide +kernel
theorem dX2_split_97 : decode cX2_split 97 = .ok (.getfield 9, 3) := by decide +kernel
theorem dX2_split_100 : decode cX2_split 100 = .ok (.iload_n 1, 1) := by decide +kernel
theorem dX2_split_101 : decode cX2_split 101 = .ok (.iconst 0, 1) := by decide +kernel
theorem dX2_split_102 : decode cX2_split 102 = .ok (.iastore, 1) := by decide +kernel
theorem dX2_split_103 : decode cX2_split 103 = .ok (.aload_n 0, 1) := by decide +kernel
theorem dX2_split_104 : decode cX2_split 104 = .ok (.getfield 18, 3) := by decide +kernel
theorem dX2_split_107 : decode cX2_split 107 = .ok (.iload_n 1, 1) := by decide +kernel
theorem dX2_split_108 : decode cX2_split 108 = .ok (.iconst 0, 1) := by decide +kernel
theorem dX2_split_109 : decode cX2_split 109 = .ok (.iastore, 1) := by decide +kernel
theorem dX2_split_110 : decode cX2_split 110 = .ok (.return_, 1) := by decide +kernel
theorem dX2_behindBlanks_0 : decode cX2_behindBlanks 0 = .ok (.iload_n 1, 1) := by decide +kernel
theorem dX2_behindBlanks_1 : decode cX2_behindBlanks 1 = .ok (.istore_n 2, 1) := by decide +kernel
theorem dX2_behindBlanks_2 : decode cX2_behindBlanks 2 = .ok (.iload_n 2, 1) := by decide +kernel
theorem dX2_behindBlanks_3 : decode cX2_behindBlanks 3 = .ok (.aload_n 0, 1) := by decide +kernel
theorem dX2_behindBlanks_4 : decode cX2_behindBlanks 4 = .ok (.getfield 30, 3) := by decide +kernel
theorem dX2_behindBlanks_7 : decode cX2_behindBlanks 7 = .ok (.if_icmp .ge 19, 3) := by decide +kernel
theorem dX2_behindBlanks_10 : decode cX2_behindBlanks 10 = .ok (.aload_n 0, 1) := by decide +kernel
theorem dX2_behindBlanks_11 : decode cX2_behindBlanks 11 = .ok (.iload_n 2, 1) := by decide +kernel
theorem dX2_behindBlanks_12 : decode cX2_behindBlanks 12 = .ok (.invokevirtual 119, 3) := by decide +kernel
theorem dX2_behindBlanks_15 : decode cX2_behindBlanks 15 = .ok (.bipush 32, 2) := by decide +kernel
theorem dX2_behindBlanks_17 : decode cX2_behindBlanks 17 = .ok (.if_icmp .ne 9, 3) := by decide +kernel
theorem dX2_behindBlanks_20 : decode cX2_behindBlanks 20 = .ok (.iinc 2 1, 3) := by decide +kernel
theorem dX2_behindBlanks_23 : decode cX2_behindBlanks 23 = .ok (.goto (-21), 3) := by decide +kernel
theorem dX2_behindBlanks_26 : decode cX2_behindBlanks 26 = .ok (.iload_n 2, 1) := by decide +kernel
theorem dX2_behindBlanks_27 : decode cX2_behindBlanks 27 = .ok (.ireturn, 1) := by decide +kernel
theorem dX2_endOf_0 : decode cX2_endOf 0 = .ok (.aload_n 0, 1) := by decide +kernel
theorem dX2_endOf_1 : decode cX2_endOf 1 = .ok (.iload_n 1, 1) := by decide +kernel
theorem dX2_endOf_2 : decode cX2_endOf 2 = .ok (.invokevirtual 119, 3) := by decide +kernel
theorem dX2_endOf_5 : decode cX2_endOf 5 = .ok (.invokestatic 122, 3) := by decide +kernel
theorem dX2_endOf_8 : decode cX2_endOf 8 = .ok (.istore_n 2, 1) := by decide +kernel
theorem dX2_endOf_9 : decode cX2_endOf 9 = .ok (.aload_n 0, 1) := by decide +kernel
theorem dX2_endOf_10 : decode cX2_endOf 10 = .ok (.iload_n 1, 1) := by decide +kernel
theorem dX2_endOf_11 : decode cX2_endOf 11 = .ok (.invokevirtual 119, 3) := by decide +kernel
theorem dX2_endOf_14 : decode cX2_endOf 14 = .ok (.invokestatic 126, 3) := by decide +kernel
theorem dX2_endOf_17 : decode cX2_endOf 17 = .ok (.istore_n 3, 1) := by decide +kernel
theorem dX2_endOf_18 : decode cX2_endOf 18 = .ok (.iload_n 1, 1) := by decide +kernel
theorem dX2_endOf_19 : decode cX2_endOf 19 = .ok (.iconst 1, 1) := by decide +kernel
theorem dX2_endOf_20 : decode cX2_endOf 20 = .ok (.iadd, 1) := by decide +kernel
theorem dX2_endOf_21 : decode cX2_endOf 21 = .ok (.istore 4, 2) := by decide +kernel
theorem dX2_endOf_23 : decode cX2_endOf 23 = .ok (.iload 4, 2) := by decide +kernel
theorem dX2_endOf_25 : decode cX2_endOf 25 = .ok (.aload_n 0, 1) := by decide +kernel
theorem dX2_endOf_26 : decode cX2_endOf 26 = .ok (.getfield 30, 3) := by decide +kernel
theorem dX2_endOf_29 : decode cX2_endOf 29 = .ok (.if_icmp .ge 41, 3) := by decide +kernel
theorem dX2_endOf_32 : decode cX2_endOf 32 = .ok (.iload_n 2, 1) := by decide +kernel
theorem dX2_endOf_33 : decode cX2_endOf 33 = .ok (.ifCond .eq 15, 3) := by decide +kernel
theorem dX2_endOf_36 : decode cX2_endOf 36 = .ok (.aload_n 0, 1) := by decide +kernel
theorem dX2_endOf_37 : decode cX2_endOf 37 = .ok (.iload 4, 2) := by decide +kernel
theorem dX2_endOf_39 : decode cX2_endOf 39 = .ok (.invokevirtual 119, 3) := by decide +kernel
theorem dX2_endOf_42 : decode cX2_endOf 42 = .ok (.invokestatic 122, 3) := by decide +kernel
theorem dX2_endOf_45 : decode cX2_endOf 45 = .ok (.ifCond .ne 19, 3) := by decide +kernel
theorem dX2_endOf_48 : decode cX2_endOf 48 = .ok (.iload_n 3, 1) := by decide +kernel
theorem dX2_endOf_49 : decode cX2_endOf 49 = .ok (.ifCond .eq 21, 3) := by decide +kernel
theorem dX2_endOf_52 : decode cX2_endOf 52 = .ok (.aload_n 0, 1) := by decide +kernel
theorem dX2_endOf_53 : decode cX2_endOf 53 = .ok (.iload 4, 2) := by decide +kernel
theorem dX2_endOf_55 : decode cX2_endOf 55 = .ok (.invokevirtual 119, 3) := by decide +kernel
theorem dX2_endOf_58 : decode cX2_endOf 58 = .ok (.invokestatic 126, 3) := by decide +kernel
theorem dX2_endOf_61 : decode cX2_endOf 61 = .ok (.ifCond .eq 9, 3) := by decide +kernel
theorem dX2_endOf_64 : decode cX2_endOf 64 = .ok (.iinc 4 1, 3) := by decide +kernel
theorem dX2_endOf_67 : decode cX2_endOf 67 = .ok (.goto (-44), 3) := by decide +kernel
theorem dX2_endOf_70 : decode cX2_endOf 70 = .ok (.iload 4, 2) := by decide +kernel
theorem dX2_endOf_72 : decode cX2_endOf 72 = .ok (.ireturn, 1) := by decide +kernel
theorem dX2_tokenOf_0 : decode cX2_tokenOf 0 = .ok (.aload_n 0, 1) := by decide +kernel
theorem dX2_tokenOf_1 : decode cX2_tokenOf 1 = .ok (.iload_n 1, 1) := by decide +kernel
theorem dX2_tokenOf_2 : decode cX2_tokenOf 2 = .ok (.invokevirtual 119, 3) := by decide +kernel
theorem dX2_tokenOf_5 : decode cX2_tokenOf 5 = .ok (.istore_n 3, 1) := by decide +kernel
theorem dX2_tokenOf_6 : decode cX2_tokenOf 6 = .ok (.iload_n 3, 1) := by decide +kernel
theorem dX2_tokenOf_7 : decode cX2_tokenOf 7 = .ok (.invokestatic 122, 3) := by decide +kernel
theorem dX2_tokenOf_10 : decode cX2_tokenOf 10 = .ok (.ifCond .eq 12, 3) := by decide +kernel
theorem dX2_tokenOf_13 : decode cX2_tokenOf 13 = .ok (.aload_n 0, 1) := by decide +kernel
theorem dX2_tokenOf_14 : decode cX2_tokenOf 14 = .ok (.iload_n 1, 1) := by decide +kernel
theorem dX2_tokenOf_15 : decode cX2_tokenOf 15 = .ok (.iload_n 2, 1) := by decide +kernel
theorem dX2_tokenOf_16 : decode cX2_tokenOf 16 = .ok (.invokevirtual 129, 3) := by decide +kernel
theorem dX2_tokenOf_19 : decode cX2_tokenOf 19 = .ok (.goto 25, 3) := by decide +kernel
theorem dX2_tokenOf_22 : decode cX2_tokenOf 22 = .ok (.iload_n 3, 1) := by decide +kernel
theorem dX2_tokenOf_23 : decode cX2_tokenOf 23 = .ok (.invokestatic 126, 3) := by decide +kernel
theorem dX2_tokenOf_26 : decode cX2_tokenOf 26 = .ok (.ifCond .eq 7, 3) := by decide +kernel
theorem dX2_tokenOf_29 : decode cX2_tokenOf 29 = .ok (.iconst 1, 1) := by decide +kernel
theorem dX2_tokenOf_30 : decode cX2_tokenOf 30 = .ok (.goto 14, 3) := by decide +kernel
theorem dX2_tokenOf_33 : decode cX2_tokenOf 33 = .ok (.iload_n 3, 1) := by decide +kernel
theorem dX2_tokenOf_34 : decode cX2_tokenOf 34 = .ok (.bipush 59, 2) := by decide +kernel
theorem dX2_tokenOf_36 : decode cX2_tokenOf 36 = .ok (.if_icmp .ne 7, 3) := by decide +kernel
theorem dX2_tokenOf_39 : decode cX2_tokenOf 39 = .ok (.iconst 2, 1) := by decide +kernel
theorem dX2_tokenOf_40 : decode cX2_tokenOf 40 = .ok (.goto 4, 3) := by decide +kernel
theorem dX2_tokenOf_43 : decode cX2_tokenOf 43 = .ok (.iconst 3, 1) := by decide +kernel
theorem dX2_tokenOf_44 : decode cX2_tokenOf 44 = .ok (.ireturn, 1) := by decide +kernel
theorem dX2_wordOf_0 : decode cX2_wordOf 0 = .ok (.aload_n 0, 1) := by decide +kernel
theorem dX2_wordOf_1 : decode cX2_wordOf 1 = .ok (.iload_n 1, 1) := by decide +kernel
theorem dX2_wordOf_2 : decode cX2_wordOf 2 = .ok (.iload_n 2, 1) := by decide +kernel
theorem dX2_wordOf_3 : decode cX2_wordOf 3 = .ok (.ldc 132, 2) := by decide +kernel
theorem dX2_wordOf_5 : decode cX2_wordOf 5 = .ok (.invokevirtual 134, 3) := by decide +kernel
theorem dX2_wordOf_8 : decode cX2_wordOf 8 = .ok (.ifCond .eq 7, 3) := by decide +kernel
theorem dX2_wordOf_11 : decode cX2_wordOf 11 = .ok (.iconst 4, 1) := by decide +kernel
theorem dX2_wordOf_12 : decode cX2_wordOf 12 = .ok (.goto 83, 3) := by decide +kernel
theorem dX2_wordOf_15 : decode cX2_wordOf 15 = .ok (.aload_n 0, 1) := by decide +kernel
theorem dX2_wordOf_16 : decode cX2_wordOf 16 = .ok (.iload_n 1, 1) := by decide +kernel
theorem dX2_wordOf_17 : decode cX2_wordOf 17 = .ok (.iload_n 2, 1) := by decide +kernel
theorem dX2_wordOf_18 : decode cX2_wordOf 18 = .ok (.ldc 138, 2) := by decide +kernel
theorem dX2_wordOf_20 : decode cX2_wordOf 20 = .ok (.invokevirtual 134, 3) := by decide +kernel
theorem dX2_wordOf_23 : decode cX2_wordOf 23 = .ok (.ifCond .eq 7, 3) := by decide +kernel
theorem dX2_wordOf_26 : decode cX2_wordOf 26 = .ok (.iconst 5, 1) := by decide +kernel
theorem dX2_wordOf_27 : decode cX2_wordOf 27 = .ok (.goto 68, 3) := by decide +kernel
theorem dX2_wordOf_30 : decode cX2_wordOf 30 = .ok (.aload_n 0, 1) := by decide +kernel
theorem dX2_wordOf_31 : decode cX2_wordOf 31 = .ok (.iload_n 1, 1) := by decide +kernel
theorem dX2_wordOf_32 : decode cX2_wordOf 32 = .ok (.iload_n 2, 1) := by decide +kernel
theorem dX2_wordOf_33 : decode cX2_wordOf 33 = .ok (.ldc 140, 2) := by decide +kernel
theorem dX2_wordOf_35 : decode cX2_wordOf 35 = .ok (.invokevirtual 134, 3) := by decide +kernel
theorem dX2_wordOf_38 : decode cX2_wordOf 38 = .ok (.ifCond .eq 8, 3) := by decide +kernel
theorem dX2_wordOf_41 : decode cX2_wordOf 41 = .ok (.bipush 6, 2) := by decide +kernel
theorem dX2_wordOf_43 : decode cX2_wordOf 43 = .ok (.goto 52, 3) := by decide +kernel
theorem dX2_wordOf_46 : decode cX2_wordOf 46 = .ok (.aload_n 0, 1) := by decide +kernel
theorem dX2_wordOf_47 : decode cX2_wordOf 47 = .ok (.iload_n 1, 1) := by decide +kernel
theorem dX2_wordOf_48 : decode cX2_wordOf 48 = .ok (.iload_n 2, 1) := by decide +kernel
theorem dX2_wordOf_49 : decode cX2_wordOf 49 = .ok (.ldc 142, 2) := by decide +kernel
theorem dX2_wordOf_51 : decode cX2_wordOf 51 = .ok (.invokevirtual 134, 3) := by decide +kernel
theorem dX2_wordOf_54 : decode cX2_wordOf 54 = .ok (.ifCond .eq 8, 3) := by decide +kernel
theorem dX2_wordOf_57 : decode cX2_wordOf 57 = .ok (.bipush 7, 2) := by decide +kernel
theorem dX2_wordOf_59 : decode cX2_wordOf 59 = .ok (.goto 36, 3) := by decide +kernel
theorem dX2_wordOf_62 : decode cX2_wordOf 62 = .ok (.aload_n 0, 1) := by decide +kernel
theorem dX2_wordOf_63 : decode cX2_wordOf 63 = .ok (.iload_n 1, 1) := by decide +kernel
theorem dX2_wordOf_64 : decode cX2_wordOf 64 = .ok (.iload_n 2, 1) := by decide +kernel
theorem dX2_wordOf_65 : decode cX2_wordOf 65 = .ok (.ldc 143, 2) := by decide +kernel
theorem dX2_wordOf_67 : decode cX2_wordOf 67 = .ok (.invokevirtual 134, 3) := by decide +kernel
theorem dX2_wordOf_70 : decode cX2_wordOf 70 = .ok (.ifCond .eq 8, 3) := by decide +kernel
theorem dX2_wordOf_73 : decode cX2_wordOf 73 = .ok (.bipush 8, 2) := by decide +kernel
theorem dX2_wordOf_75 : decode cX2_wordOf 75 = .ok (.goto 20, 3) := by decide +kernel
theorem dX2_wordOf_78 : decode cX2_wordOf 78 = .ok (.aload_n 0, 1) := by decide +kernel
theorem dX2_wordOf_79 : decode cX2_wordOf 79 = .ok (.iload_n 1, 1) := by decide +kernel
theorem dX2_wordOf_80 : decode cX2_wordOf 80 = .ok (.iload_n 2, 1) := by decide +kernel
theorem dX2_wordOf_81 : decode cX2_wordOf 81 = .ok (.ldc 144, 2) := by decide +kernel
theorem dX2_wordOf_83 : decode cX2_wordOf 83 = .ok (.invokevirtual 134, 3) := by decide +kernel
theorem dX2_wordOf_86 : decode cX2_wordOf 86 = .ok (.ifCond .eq 8, 3) := by decide +kernel
theorem dX2_wordOf_89 : decode cX2_wordOf 89 = .ok (.bipush 9, 2) := by decide +kernel
theorem dX2_wordOf_91 : decode cX2_wordOf 91 = .ok (.goto 4, 3) := by decide +kernel
theorem dX2_wordOf_94 : decode cX2_wordOf 94 = .ok (.iconst 3, 1) := by decide +kernel
theorem dX2_wordOf_95 : decode cX2_wordOf 95 = .ok (.ireturn, 1) := by decide +kernel
theorem dX2_spells_0 : decode cX2_spells 0 = .ok (.iload_n 2, 1) := by decide +kernel
theorem dX2_spells_1 : decode cX2_spells 1 = .ok (.iload_n 1, 1) := by decide +kernel
theorem dX2_spells_2 : decode cX2_spells 2 = .ok (.isub, 1) := by decide +kernel
theorem dX2_spells_3 : decode cX2_spells 3 = .ok (.aload_n 3, 1) := by decide +kernel
theorem dX2_spells_4 : decode cX2_spells 4 = .ok (.invokevirtual 145, 3) := by decide +kernel
theorem dX2_spells_7 : decode cX2_spells 7 = .ok (.if_icmp .eq 5, 3) := by decide +kernel
theorem dX2_spells_10 : decode cX2_spells 10 = .ok (.iconst 0, 1) := by decide +kernel
theorem dX2_spells_11 : decode cX2_spells 11 = .ok (.ireturn, 1) := by decide +kernel
theorem dX2_spells_12 : decode cX2_spells 12 = .ok (.iconst 0, 1) := by decide +kernel
theorem dX2_spells_13 : decode cX2_spells 13 = .ok (.istore 4, 2) := by decide +kernel
theorem dX2_spells_15 : decode cX2_spells 15 = .ok (.iload 4, 2) := by decide +kernel
theorem dX2_spells_17 : decode cX2_spells 17 = .ok (.aload_n 3, 1) := by decide +kernel
theorem dX2_spells_18 : decode cX2_spells 18 = .ok (.invokevirtual 145, 3) := by decide +kernel
theorem dX2_spells_21 : decode cX2_spells 21 = .ok (.if_icmp .ge 28, 3) := by decide +kernel
theorem dX2_spells_24 : decode cX2_spells 24 = .ok (.aload_n 0, 1) := by decide +kernel
theorem dX2_spells_25 : decode cX2_spells 25 = .ok (.iload_n 1, 1) := by decide +kernel
theorem dX2_spells_26 : decode cX2_spells 26 = .ok (.iload 4, 2) := by decide +kernel
theorem dX2_spells_28 : decode cX2_spells 28 = .ok (.iadd, 1) := by decide +kernel
theorem dX2_spells_29 : decode cX2_spells 29 = .ok (.invokevirtual 119, 3) := by decide +kernel
theorem dX2_spells_32 : decode cX2_spells 32 = .ok (.aload_n 3, 1) := by decide +kernel
theorem dX2_spells_33 : decode cX2_spells 33 = .ok (.iload 4, 2) := by decide +kernel
theorem dX2_spells_35 : decode cX2_spells 35 = .ok (.invokevirtual 150, 3) := by decide +kernel
theorem dX2_spells_38 : decode cX2_spells 38 = .ok (.if_icmp .eq 5, 3) := by decide +kernel
theorem dX2_spells_41 : decode cX2_spells 41 = .ok (.iconst 0, 1) := by decide +kernel
theorem dX2_spells_42 : decode cX2_spells 42 = .ok (.ireturn, 1) := by decide +kernel
theorem dX2_spells_43 : decode cX2_spells 43 = .ok (.iinc 4 1, 3) := by decide +kernel
theorem dX2_spells_46 : decode cX2_spells 46 = .ok (.goto (-31), 3) := by decide +kernel
theorem dX2_spells_49 : decode cX2_spells 49 = .ok (.iconst 1, 1) := by decide +kernel
theorem dX2_spells_50 : decode cX2_spells 50 = .ok (.ireturn, 1) := by decide +kernel
theorem dX2_numberOf_0 : decode cX2_numberOf 0 = .ok (.aload_n 0, 1) := by decide +kernel
theorem dX2_numberOf_1 : decode cX2_numberOf 1 = .ok (.iload_n 2, 1) := by decide +kernel
theorem dX2_numberOf_2 : decode cX2_numberOf 2 = .ok (.iconst 1, 1) := by decide +kernel
theorem dX2_numberOf_3 : decode cX2_numberOf 3 = .ok (.isub, 1) := by decide +kernel
theorem dX2_numberOf_4 : decode cX2_numberOf 4 = .ok (.invokevirtual 119, 3) := by decide +kernel
theorem dX2_numberOf_7 : decode cX2_numberOf 7 = .ok (.bipush 48, 2) := by decide +kernel
theorem dX2_numberOf_9 : decode cX2_numberOf 9 = .ok (.isub, 1) := by decide +kernel
theorem dX2_numberOf_10 : decode cX2_numberOf 10 = .ok (.istore_n 3, 1) := by decide +kernel
theorem dX2_numberOf_11 : decode cX2_numberOf 11 = .ok (.iload_n 2, 1) := by decide +kernel
theorem dX2_numberOf_12 : decode cX2_numberOf 12 = .ok (.iload_n 1, 1) := by decide +kernel
theorem dX2_numberOf_13 : decode cX2_numberOf 13 = .ok (.isub, 1) := by decide +kernel
theorem dX2_numberOf_14 : decode cX2_numberOf 14 = .ok (.iconst 1, 1) := by decide +kernel
theorem dX2_numberOf_15 : decode cX2_numberOf 15 = .ok (.if_icmp .ne 5, 3) := by decide +kernel
theorem dX2_numberOf_18 : decode cX2_numberOf 18 = .ok (.iload_n 3, 1) := by decide +kernel
theorem dX2_numberOf_19 : decode cX2_numberOf 19 = .ok (.ireturn, 1) := by decide +kernel
theorem dX2_numberOf_20 : decode cX2_numberOf 20 = .ok (.aload_n 0, 1) := by decide +kernel
theorem dX2_numberOf_21 : decode cX2_numberOf 21 = .ok (.iload_n 1, 1) := by decide +kernel
theorem dX2_numberOf_22 : decode cX2_numberOf 22 = .ok (.invokevirtual 119, 3) := by decide +kernel
theorem dX2_numberOf_25 : decode cX2_numberOf 25 = .ok (.bipush 48, 2) := by decide +kernel
theorem dX2_numberOf_27 : decode cX2_numberOf 27 = .ok (.isub, 1) := by decide +kernel
theorem dX2_numberOf_28 : decode cX2_numberOf 28 = .ok (.istore 4, 2) := by decide +kernel
theorem dX2_numberOf_30 : decode cX2_numberOf 30 = .ok (.iload_n 2, 1) := by decide +kernel
theorem dX2_numberOf_31 : decode cX2_numberOf 31 = .ok (.iload_n 1, 1) := by decide +kernel
theorem dX2_numberOf_32 : decode cX2_numberOf 32 = .ok (.isub, 1) := by decide +kernel
theorem dX2_numberOf_33 : decode cX2_numberOf 33 = .ok (.iconst 2, 1) := by decide +kernel
theorem dX2_numberOf_34 : decode cX2_numberOf 34 = .ok (.if_icmp .ne 18, 3) := by decide +kernel
theorem dX2_numberOf_37 : decode cX2_numberOf 37 = .ok (.iload 4, 2) := by decide +kernel
theorem dX2_numberOf_39 : decode cX2_numberOf 39 = .ok (.ifCond .le 13, 3) := by decide +kernel
theorem dX2_numberOf_42 : decode cX2_numberOf 42 = .ok (.bipush 10, 2) := by decide +kernel
theorem dX2_numberOf_44 : decode cX2_numberOf 44 = .ok (.iload 4, 2) := by decide +kernel
theorem dX2_numberOf_46 : decode cX2_numberOf 46 = .ok (.imul, 1) := by decide +kernel
theorem dX2_numberOf_47 : decode cX2_numberOf 47 = .ok (.iload_n 3, 1) := by decide +kernel
theorem dX2_numberOf_48 : decode cX2_numberOf 48 = .ok (.iadd, 1) := by decide +kernel
theorem dX2_numberOf_49 : decode cX2_numberOf 49 = .ok (.goto 4, 3) := by decide +kernel
theorem dX2_numberOf_52 : decode cX2_numberOf 52 = .ok (.iconst (-1), 1) := by decide +kernel
theorem dX2_numberOf_53 : decode cX2_numberOf 53 = .ok (.ireturn, 1) := by decide +kernel
theorem dX2_byteAt_0 : decode cX2_byteAt 0 = .ok (.aload_n 0, 1) := by decide +kernel
theorem dX2_byteAt_1 : decode cX2_byteAt 1 = .ok (.getfield 21, 3) := by decide +kernel
theorem dX2_byteAt_4 : decode cX2_byteAt 4 = .ok (.ifnull 33, 3) := by decide +kernel
theorem dX2_byteAt_7 : decode cX2_byteAt 7 = .ok (.iload_n 1, 1) := by decide +kernel
theorem dX2_byteAt_8 : decode cX2_byteAt 8 = .ok (.ifCond .lt 29, 3) := by decide +kernel
theorem dX2_byteAt_11 : decode cX2_byteAt 11 = .ok (.iload_n 1, 1) := by decide +kernel
theorem dX2_byteAt_12 : decode cX2_byteAt 12 = .ok (.aload_n 0, 1) := by decide +kernel
theorem dX2_byteAt_13 : decode cX2_byteAt 13 = .ok (.getfield 30, 3) := by decide +kernel
theorem dX2_byteAt_16 : decode cX2_byteAt 16 = .ok (.if_icmp .ge 21, 3) := by decide +kernel
theorem dX2_byteAt_19 : decode cX2_byteAt 19 = .ok (.iload_n 1, 1) := by decide +kernel
theorem dX2_byteAt_20 : decode cX2_byteAt 20 = .ok (.aload_n 0, 1) := by decide +kernel
theorem dX2_byteAt_21 : decode cX2_byteAt 21 = .ok (.getfield 21, 3) := by decide +kernel
theorem dX2_byteAt_24 : decode cX2_byteAt 24 = .ok (.arraylength, 1) := by decide +kernel
theorem dX2_byteAt_25 : decode cX2_byteAt 25 = .ok (.if_icmp .ge 12, 3) := by decide +kernel
theorem dX2_byteAt_28 : decode cX2_byteAt 28 = .ok (.aload_n 0, 1) := by decide +kernel
theorem dX2_byteAt_29 : decode cX2_byteAt 29 = .ok (.getfield 21, 3) := by decide +kernel
theorem dX2_byteAt_32 : decode cX2_byteAt 32 = .ok (.iload_n 1, 1) := by decide +kernel
theorem dX2_byteAt_33 : decode cX2_byteAt 33 = .ok (.iaload, 1) := by decide +kernel
theorem dX2_byteAt_34 : decode cX2_byteAt 34 = .ok (.goto 4, 3) := by decide +kernel
theorem dX2_byteAt_37 : decode cX2_byteAt 37 = .ok (.iconst (-1), 1) := by decide +kernel
theorem dX2_byteAt_38 : decode cX2_byteAt 38 = .ok (.ireturn, 1) := by decide +kernel
theorem dX2_isLetter_0 : decode cX2_isLetter 0 = .ok (.iload_n 0, 1) := by decide +kernel
theorem dX2_isLetter_1 : decode cX2_isLetter 1 = .ok (.bipush 97, 2) := by decide +kernel
theorem dX2_isLetter_3 : decode cX2_isLetter 3 = .ok (.if_icmp .lt 13, 3) := by decide +kernel
theorem dX2_isLetter_6 : decode cX2_isLetter 6 = .ok (.iload_n 0, 1) := by decide +kernel
theorem dX2_isLetter_7 : decode cX2_isLetter 7 = .ok (.bipush 122, 2) := by decide +kernel
theorem dX2_isLetter_9 : decode cX2_isLetter 9 = .ok (.if_icmp .gt 7, 3) := by decide +kernel
theorem dX2_isLetter_12 : decode cX2_isLetter 12 = .ok (.iconst 1, 1) := by decide +kernel
theorem dX2_isLetter_13 : decode cX2_isLetter 13 = .ok (.goto 4, 3) := by decide +kernel
theorem dX2_isLetter_16 : decode cX2_isLetter 16 = .ok (.iconst 0, 1) := by decide +kernel
theorem dX2_isLetter_17 : decode cX2_isLetter 17 = .ok (.ireturn, 1) := by decide +kernel
theorem dX2_isDigit_0 : decode cX2_isDigit 0 = .ok (.iload_n 0, 1) := by decide +kernel
theorem dX2_isDigit_1 : decode cX2_isDigit 1 = .ok (.bipush 48, 2) := by decide +kernel
theorem dX2_isDigit_3 : decode cX2_isDigit 3 = .ok (.if_icmp .lt 13, 3) := by decide +kernel
theorem dX2_isDigit_6 : decode cX2_isDigit 6 = .ok (.iload_n 0, 1) := by decide +kernel
theorem dX2_isDigit_7 : decode cX2_isDigit 7 = .ok (.bipush 57, 2) := by decide +kernel
theorem dX2_isDigit_9 : decode cX2_isDigit 9 = .ok (.if_icmp .gt 7, 3) := by decide +kernel
theorem dX2_isDigit_12 : decode cX2_isDigit 12 = .ok (.iconst 1, 1) := by decide +kernel
theorem dX2_isDigit_13 : decode cX2_isDigit 13 = .ok (.goto 4, 3) := by decide +kernel
theorem dX2_isDigit_16 : decode cX2_isDigit 16 = .ok (.iconst 0, 1) := by decide +kernel
theorem dX2_isDigit_17 : decode cX2_isDigit 17 = .ok (.ireturn, 1) := by decide +kernel
theorem dX3_init_0 : decode cX3_init 0 = .ok (.aload_n 0, 1) := by decide +kernel
theorem dX3_init_1 : decode cX3_init 1 = .ok (.invokespecial 3, 3) := by decide +kernel
theorem dX3_init_4 : decode cX3_init 4 = .ok (.aload_n 0, 1) := by decide +kernel
theorem dX3_init_5 : decode cX3_init 5 = .ok (.bipush 7, 2) := by decide +kernel
theorem dX3_init_7 : decode cX3_init 7 = .ok (.newarray .int, 2) := by decide +kernel
theorem dX3_init_9 : decode cX3_init 9 = .ok (.putfield 9, 3) := by decide +kernel
theorem dX3_init_12 : decode cX3_init 12 = .ok (.aload_n 0, 1) := by decide +kernel
theorem dX3_init_13 : decode cX3_init 13 = .ok (.bipush 7, 2) := by decide +kernel
theorem dX3_init_15 : decode cX3_init 15 = .ok (.newarray .int, 2) := by decide +kernel
theorem dX3_init_17 : decode cX3_init 17 = .ok (.putfield 13, 3) := by decide +kernel
theorem dX3_init_20 : decode cX3_init 20 = .ok (.aload_n 0, 1) := by decide +kernel
theorem dX3_init_21 : decode cX3_init 21 = .ok (.bipush 7, 2) := by decide +kernel
theorem dX3_init_23 : decode cX3_init 23 = .ok (.newarray .int, 2) := by decide +kernel
theorem dX3_init_25 : decode cX3_init 25 = .ok (.putfield 16, 3) := by decide +kernel
theorem dX3_init_28 : decode cX3_init 28 = .ok (.aload_n 0, 1) := by decide +kernel
theorem dX3_init_29 : decode cX3_init 29 = .ok (.bipush 7, 2) := by decide +kernel
theorem dX3_init_31 : decode cX3_init 31 = .ok (.newarray .int, 2) := by decide +kernel
theorem dX3_init_33 : decode cX3_init 33 = .ok (.putfield 19, 3) := by decide +kernel
theorem dX3_init_36 : decode cX3_init 36 = .ok (.aload_n 0, 1) := by decide +kernel
theorem dX3_init_37 : decode cX3_init 37 = .ok (.sipush 128, 3) := by decide +kernel
theorem dX3_init_40 : decode cX3_init 40 = .ok (.newarray .int, 2) := by decide +kernel
theorem dX3_init_42 : decode cX3_init 42 = .ok (.putfield 22, 3) := by decide +kernel
theorem dX3_init_45 : decode cX3_init 45 = .ok (.aload_n 0, 1) := by decide +kernel
theorem dX3_init_46 : decode cX3_init 46 = .ok (.sipush 128, 3) := by decide +kernel
theorem dX3_init_49 : decode cX3_init 49 = .ok (.newarray .boolean, 2) := by decide +kernel
theorem dX3_init_51 : decode cX3_init 51 = .ok (.putfield 25, 3) := by decide +kernel
theorem dX3_init_54 : decode cX3_init 54 = .ok (.aload_n 0, 1) := by decide +kernel
theorem dX3_init_55 : decode cX3_init 55 = .ok (.invokevirtual 29, 3) := by decide +kernel
theorem dX3_init_58 : decode cX3_init 58 = .ok (.aload_n 0, 1) := by decide +kernel
theorem dX3_init_59 : decode cX3_init 59 = .ok (.invokevirtual 32, 3) := by decide +kernel
theorem dX3_init_62 : decode cX3_init 62 = .ok (.return_, 1) := by decide +kernel
theorem dX3_beginAnew_0 : decode cX3_beginAnew 0 = .ok (.aload_n 0, 1) := by decide +kernel
theorem dX3_beginAnew_1 : decode cX3_beginAnew 1 = .ok (.iconst 0, 1) := by decide +kernel
theorem dX3_beginAnew_2 : decode cX3_beginAnew 2 = .ok (.putfield 35, 3) := by decide +kernel
theorem dX3_beginAnew_5 : decode cX3_beginAnew 5 = .ok (.aload_n 0, 1) := by decide +kernel
theorem dX3_beginAnew_6 : decode cX3_beginAnew 6 = .ok (.iconst 0, 1) := by decide +kernel
theorem dX3_beginAnew_7 : decode cX3_beginAnew 7 = .ok (.putfield 39, 3) := by decide +kernel
theorem dX3_beginAnew_10 : decode cX3_beginAnew 10 = .ok (.aload_n 0, 1) := by decide +kernel
theorem dX3_beginAnew_11 : decode cX3_beginAnew 11 = .ok (.iconst 0, 1) := by decide +kernel
theorem dX3_beginAnew_12 : decode cX3_beginAnew 12 = .ok (.putfield 42, 3) := by decide +kernel
theorem dX3_beginAnew_15 : decode cX3_beginAnew 15 = .ok (.aload_n 0, 1) := by decide +kernel
theorem dX3_beginAnew_16 : decode cX3_beginAnew 16 = .ok (.iconst 0, 1) := by decide +kernel
theorem dX3_beginAnew_17 : decode cX3_beginAnew 17 = .ok (.putfield 45, 3) := by decide +kernel
theorem dX3_beginAnew_20 : decode cX3_beginAnew 20 = .ok (.aload_n 0, 1) := by decide +kernel
theorem dX3_beginAnew_21 : decode cX3_beginAnew 21 = .ok (.iconst 2, 1) := by decide +kernel
theorem dX3_beginAnew_22 : decode cX3_beginAnew 22 = .ok (.putfield 48, 3) := by decide +kernel
theorem dX3_beginAnew_25 : decode cX3_beginAnew 25 = .ok (.aload_n 0, 1) := by decide +kernel
theorem dX3_beginAnew_26 : decode cX3_beginAnew 26 = .ok (.bipush 9, 2) := by decide +kernel
theorem dX3_beginAnew_28 : decode cX3_beginAnew 28 = .ok (.putfield 51, 3) := by decide +kernel
theorem dX3_beginAnew_31 : decode cX3_beginAnew 31 = .ok (.aload_n 0, 1) := by decide +kernel
theorem dX3_beginAnew_32 : decode cX3_beginAnew 32 = .ok (.iconst 5, 1) := by decide +kernel
theorem dX3_beginAnew_33 : decode cX3_beginAnew 33 = .ok (.putfield 54, 3) := by decide +kernel
theorem dX3_beginAnew_36 : decode cX3_beginAnew 36 = .ok (.aload_n 0, 1) := by decide +kernel
theorem dX3_beginAnew_37 : decode cX3_beginAnew 37 = .ok (.iconst 0, 1) := by decide +kernel
theorem dX3_beginAnew_38 : decode cX3_beginAnew 38 = .ok (.putfield 57, 3) := by decide +kernel
theorem dX3_beginAnew_41 : decode cX3_beginAnew 41 = .ok (.aload_n 0, 1) := by decide +kernel
theorem dX3_beginAnew_42 : decode cX3_beginAnew 42 = .ok (.iconst 0, 1) := by decide +kernel
theorem dX3_beginAnew_43 : decode cX3_beginAnew 43 = .ok (.putfield 60, 3) := by decide +kernel
theorem dX3_beginAnew_46 : decode cX3_beginAnew 46 = .ok (.return_, 1) := by decide +kernel
theorem dX3_addThing_0 : decode cX3_addThing 0 = .ok (.aload_n 0, 1) := by decide +kernel
theorem dX3_addThing_1 : decode cX3_addThing 1 = .ok (.getfield 35, 3) := by decide +kernel
theorem dX3_addThing_4 : decode cX3_addThing 4 = .ok (.bipush 7, 2) := by decide +kernel
theorem dX3_addThing_6 : decode cX3_addThing 6 = .ok (.if_icmp .lt 4, 3) := by decide +kernel
theorem dX3_addThing_9 : decode cX3_addThing 9 = .ok (.return_, 1) := by decide +kernel
theorem dX3_addThing_10 : decode cX3_addThing 10 = .ok (.iconst 1, 1) := by decide +kernel
theorem dX3_addThing_11 : decode cX3_addThing 11 = .ok (.aload_n 0, 1) := by decide +kernel
theorem dX3_addThing_12 : decode cX3_addThing 12 = .ok (.getfield 35, 3) := by decide +kernel
theorem dX3_addThing_15 : decode cX3_addThing 15 = .ok (.ishl, 1) := by decide +kernel
theorem dX3_addThing_16 : decode cX3_addThing 16 = .ok (.istore 5, 2) := by decide +kernel
theorem dX3_addThing_18 : decode cX3_addThing 18 = .ok (.aload_n 0, 1) := by decide +kernel
theorem dX3_addThing_19 : decode cX3_addThing 19 = .ok (.getfield 9, 3) := by decide +kernel
theorem dX3_addThing_22 : decode cX3_addThing 22 = .ok (.aload_n 0, 1) := by decide +kernel
theorem dX3_addThing_23 : decode cX3_addThing 23 = .ok (.getfield 35, 3) := by decide +kernel
theorem dX3_addThing_26 : decode cX3_addThing 26 = .ok (.iload_n 2, 1) := by decide +kernel
theorem dX3_addThing_27 : decode cX3_addThing 27 = .ok (.iastore, 1) := by decide +kernel
theorem dX3_addThing_28 : decode cX3_addThing 28 = .ok (.aload_n 0, 1) := by decide +kernel
theorem dX3_addThing_29 : decode cX3_addThing 29 = .ok (.getfield 13, 3) := by decide +kernel
theorem dX3_addThing_32 : decode cX3_addThing 32 = .ok (.aload_n 0, 1) := by decide +kernel
theorem dX3_addThing_33 : decode cX3_addThing 33 = .ok (.getfield 35, 3) := by decide +kernel
theorem dX3_addThing_36 : decode cX3_addThing 36 = .ok (.iload_n 3, 1) := by decide +kernel
theorem dX3_addThing_37 : decode cX3_addThing 37 = .ok (.iastore, 1) := by decide +kernel
theorem dX3_addThing_38 : decode cX3_addThing 38 = .ok (.aload_n 0, 1) := by decide +kernel
theorem dX3_addThing_39 : decode cX3_addThing 39 = .ok (.getfield 16, 3) := by decide +kernel
theorem dX3_addThing_42 : decode cX3_addThing 42 = .ok (.aload_n 0, 1) := by decide +kernel
theorem dX3_addThing_43 : decode cX3_addThing 43 = .ok (.getfield 35, 3) := by decide +kernel
theorem dX3_addThing_46 : decode cX3_addThing 46 = .ok (.iload 4, 2) := by decide +kernel
theorem dX3_addThing_48 : decode cX3_addThing 48 = .ok (.iastore, 1) := by decide +kernel
theorem dX3_addThing_49 : decode cX3_addThing 49 = .ok (.aload_n 0, 1) := by decide +kernel
theorem dX3_addThing_50 : decode cX3_addThing 50 = .ok (.getfield 19, 3) := by decide +kernel
theorem dX3_addThing_53 : decode cX3_addThing 53 = .ok (.aload_n 0, 1) := by decide +kernel
theorem dX3_addThing_54 : decode cX3_addThing 54 = .ok (.getfield 35, 3) := by decide +kernel
theorem dX3_addThing_57 : decode cX3_addThing 57 = .ok (.iconst 0, 1) := by decide +kernel
theorem dX3_addThing_58 : decode cX3_addThing 58 = .ok (.iastore, 1) := by decide +kernel
theorem dX3_addThing_59 : decode cX3_addThing 59 = .ok (.aload_n 0, 1) := by decide +kernel
theorem dX3_addThing_60 : decode cX3_addThing 60 = .ok (.dup, 1) := by decide +kernel
theorem dX3_addThing_61 : decode cX3_addThing 61 = .ok (.getfield 45, 3) := by decide +kernel
theorem dX3_addThing_64 : decode cX3_addThing 64 = .ok (.iload_n 1, 1) := by decide +kernel
theorem dX3_addThing_65 : decode cX3_addThing 65 = .ok (.iconst 1, 1) := by decide +kernel
theorem dX3_addThing_66 : decode cX3_addThing 66 = .ok (.if_icmp .ne 8, 3) := by decide +kernel
theorem dX3_addThing_69 : decode cX3_addThing 69 = .ok (.iload 5, 2) := by decide +kernel
theorem dX3_addThing_71 : decode cX3_addThing 71 = .ok (.goto 4, 3) := by decide +kernel
theorem dX3_addThing_74 : decode cX3_addThing 74 = .ok (.iconst 0, 1) := by decide +kernel
theorem dX3_addThing_75 : decode cX3_addThing 75 = .ok (.ior, 1) := by decide +kernel
theorem dX3_addThing_76 : decode cX3_addThing 76 = .ok (.putfield 45, 3) := by decide +kernel
theorem dX3_addThing_79 : decode cX3_addThing 79 = .ok (.aload_n 0, 1) := by decide +kernel
theorem dX3_addThing_80 : decode cX3_addThing 80 = .ok (.dup, 1) := by decide +kernel
theorem dX3_addThing_81 : decode cX3_addThing 81 = .ok (.getfield 57, 3) := by decide +kernel
theorem dX3_addThing_84 : decode cX3_addThing 84 = .ok (.iload_n 2, 1) := by decide +kernel
theorem dX3_addThing_85 : decode cX3_addThing 85 = .ok (.ifCond .ne 8, 3) := by decide +kernel
theorem dX3_addThing_88 : decode cX3_addThing 88 = .ok (.iload 5, 2) := by decide +kernel
theorem dX3_addThing_90 : decode cX3_addThing 90 = .ok (.goto 4, 3) := by decide +kernel
theorem dX3_addThing_93 : decode cX3_addThing 93 = .ok (.iconst 0, 1) := by decide +kernel
theorem dX3_addThing_94 : decode cX3_addThing 94 = .ok (.ior, 1) := by decide +kernel
theorem dX3_addThing_95 : decode cX3_addThing 95 = .ok (.putfield 57, 3) := by decide +kernel
theorem dX3_addThing_98 : decode cX3_addThing 98 = .ok (.aload_n 0, 1) := by decide +kernel
theorem dX3_addThing_99 : decode cX3_addThing 99 = .ok (.dup, 1) := by decide +kernel
theorem dX3_addThing_100 : decode cX3_addThing 100 = .ok (.getfield 60, 3) := by decide +kernel
theorem dX3_addThing_103 : decode cX3_addThing 103 = .ok (.iload_n 2, 1) := by decide +kernel
theorem dX3_addThing_104 : decode cX3_addThing 104 = .ok (.iconst 1, 1) := by decide +kernel
theorem dX3_addThing_105 : decode cX3_addThing 105 = .ok (.if_icmp .ne 8, 3) := by decide +kernel
theorem dX3_addThing_108 : decode cX3_addThing 108 = .ok (.iload 5, 2) := by decide +kernel
theorem dX3_addThing_110 : decode cX3_addThing 110 = .ok (.goto 4, 3) := by decide +kernel
theorem dX3_addThing_113 : decode cX3_addThing 113 = .ok (.iconst 0, 1) := by decide +kernel
theorem dX3_addThing_114 : decode cX3_addThing 114 = .ok (.ior, 1) := by decide +kernel
theorem dX3_addThing_115 : decode cX3_addThing 115 = .ok (.putfield 60, 3) := by decide +kernel
theorem dX3_addThing_118 : decode cX3_addThing 118 = .ok (.aload_n 0, 1) := by decide +kernel
theorem dX3_addThing_119 : decode cX3_addThing 119 = .ok (.dup, 1) := by decide +kernel
theorem dX3_addThing_120 : decode cX3_addThing 120 = .ok (.getfield 39, 3) := by decide +kernel
theorem dX3_addThing_123 : decode cX3_addThing 123 = .ok (.iload 5, 2) := by decide +kernel
theorem dX3_addThing_125 : decode cX3_addThing 125 = .ok (.ior, 1) := by decide +kernel
theorem dX3_addThing_126 : decode cX3_addThing 126 = .ok (.putfield 39, 3) := by decide +kernel
theorem dX3_addThing_129 : decode cX3_addThing 129 = .ok (.aload_n 0, 1) := by decide +kernel
theorem dX3_addThing_130 : decode cX3_addThing 130 = .ok (.dup, 1) := by decide +kernel
theorem dX3_addThing_131 : decode cX3_addThing 131 = .ok (.getfield 35, 3) := by decide +kernel
theorem dX3_addThing_134 : decode cX3_addThing 134 = .ok (.iconst 1, 1) := by decide +kernel
theorem dX3_addThing_135 : decode cX3_addThing 135 = .ok (.iadd, 1) := by decide +kernel
theorem dX3_addThing_136 : decode cX3_addThing 136 = .ok (.putfield 35, 3) := by decide +kernel
theorem dX3_addThing_139 : decode cX3_addThing 139 = .ok (.return_, 1) := by decide +kernel
theorem dX3_addPair_0 : decode cX3_addPair 0 = .ok (.aload_n 0, 1) := by decide +kernel
theorem dX3_addPair_1 : decode cX3_addPair 1 = .ok (.iload_n 1, 1) := by decide +kernel
theorem dX3_addPair_2 : decode cX3_addPair 2 = .ok (.invokevirtual 63, 3) := by decide +kernel
theorem dX3_addPair_5 : decode cX3_addPair 5 = .ok (.ifCond .eq 11, 3) := by decide +kernel
theorem dX3_addPair_8 : decode cX3_addPair 8 = .ok (.aload_n 0, 1) := by decide +kernel
theorem dX3_addPair_9 : decode cX3_addPair 9 = .ok (.iload_n 2, 1) := by decide +kernel
theorem dX3_addPair_10 : decode cX3_addPair 10 = .ok (.invokevirtual 63, 3) := by decide +kernel
theorem dX3_addPair_13 : decode cX3_addPair 13 = .ok (.ifCond .ne 4, 3) := by decide +kernel
theorem dX3_addPair_16 : decode cX3_addPair 16 = .ok (.return_, 1) := by decide +kernel
theorem dX3_addPair_17 : decode cX3_addPair 17 = .ok (.aload_n 0, 1) := by decide +kernel
theorem dX3_addPair_18 : decode cX3_addPair 18 = .ok (.getfield 19, 3) := by decide +kernel
theorem dX3_addPair_21 : decode cX3_addPair 21 = .ok (.iload_n 1, 1) := by decide +kernel
theorem dX3_addPair_22 : decode cX3_addPair 22 = .ok (.dup2, 1) := by decide +kernel
theorem dX3_addPair_23 : decode cX3_addPair 23 = .ok (.iaload, 1) := by decide +kernel
theorem dX3_addPair_24 : decode cX3_addPair 24 = .ok (.iconst 1, 1) := by decide +kernel
theorem dX3_addPair_25 : decode cX3_addPair 25 = .ok (.iload_n 2, 1) := by decide +kernel
theorem dX3_addPair_26 : decode cX3_addPair 26 = .ok (.ishl, 1) := by decide +kernel
theorem dX3_addPair_27 : decode cX3_addPair 27 = .ok (.ior, 1) := by decide +kernel
theorem dX3_addPair_28 : decode cX3_addPair 28 = .ok (.iastore, 1) := by decide +kernel
theorem dX3_addPair_29 : decode cX3_addPair 29 = .ok (.aload_n 0, 1) := by decide +kernel
theorem dX3_addPair_30 : decode cX3_addPair 30 = .ok (.getfield 19, 3) := by decide +kernel
theorem dX3_addPair_33 : decode cX3_addPair 33 = .ok (.iload_n 2, 1) := by decide +kernel
theorem dX3_addPair_34 : decode cX3_addPair 34 = .ok (.dup2, 1) := by decide +kernel
theorem dX3_addPair_35 : decode cX3_addPair 35 = .ok (.iaload, 1) := by decide +kernel
theorem dX3_addPair_36 : decode cX3_addPair 36 = .ok (.iconst 1, 1) := by decide +kernel
theorem dX3_addPair_37 : decode cX3_addPair 37 = .ok (.iload_n 1, 1) := by decide +kernel
theorem dX3_addPair_38 : decode cX3_addPair 38 = .ok (.ishl, 1) := by decide +kernel
theorem dX3_addPair_39 : decode cX3_addPair 39 = .ok (.ior, 1) := by decide +kernel
theorem dX3_addPair_40 : decode cX3_addPair 40 = .ok (.iastore, 1) := by decide +kernel
theorem dX3_addPair_41 : decode cX3_addPair 41 = .ok (.aload_n 0, 1) := by decide +kernel
theorem dX3_addPair_42 : decode cX3_addPair 42 = .ok (.dup, 1) := by decide +kernel
theorem dX3_addPair_43 : decode cX3_addPair 43 = .ok (.getfield 42, 3) := by decide +kernel
theorem dX3_addPair_46 : decode cX3_addPair 46 = .ok (.iconst 1, 1) := by decide +kernel
theorem dX3_addPair_47 : decode cX3_addPair 47 = .ok (.iadd, 1) := by decide +kernel
theorem dX3_addPair_48 : decode cX3_addPair 48 = .ok (.putfield 42, 3) := by decide +kernel
theorem dX3_addPair_51 : decode cX3_addPair 51 = .ok (.return_, 1) := by decide +kernel
theorem dX3_putFerry_0 : decode cX3_putFerry 0 = .ok (.aload_n 0, 1) := by decide +kernel
theorem dX3_putFerry_1 : decode cX3_putFerry 1 = .ok (.iload_n 1, 1) := by decide +kernel
theorem dX3_putFerry_2 : decode cX3_putFerry 2 = .ok (.iconst 1, 1) := by decide +kernel
theorem dX3_putFerry_3 : decode cX3_putFerry 3 = .ok (.if_icmp .ne 14, 3) := by decide +kernel
theorem dX3_putFerry_6 : decode cX3_putFerry 6 = .ok (.aload_n 0, 1) := by decide +kernel
theorem dX3_putFerry_7 : decode cX3_putFerry 7 = .ok (.getfield 45, 3) := by decide +kernel
theorem dX3_putFerry_10 : decode cX3_putFerry 10 = .ok (.sipush 128, 3) := by decide +kernel
theorem dX3_putFerry_13 : decode cX3_putFerry 13 = .ok (.ior, 1) := by decide +kernel
theorem dX3_putFerry_14 : decode cX3_putFerry 14 = .ok (.goto 11, 3) := by decide +kernel
theorem dX3_putFerry_17 : decode cX3_putFerry 17 = .ok (.aload_n 0, 1) := by decide +kernel
theorem dX3_putFerry_18 : decode cX3_putFerry 18 = .ok (.getfield 45, 3) := by decide +kernel
theorem dX3_putFerry_21 : decode cX3_putFerry 21 = .ok (.sipush (-129), 3) := by decide +kernel
theorem dX3_putFerry_24 : decode cX3_putFerry 24 = .ok (.iand, 1) := by decide +kernel
theorem dX3_putFerry_25 : decode cX3_putFerry 25 = .ok (.putfield 45, 3) := by decide +kernel
theorem dX3_putFerry_28 : decode cX3_putFerry 28 = .ok (.return_, 1) := by decide +kernel
theorem dX3_settle_0 : decode cX3_settle 0 = .ok (.aload_n 0, 1) := by decide +kernel
theorem dX3_settle_1 : decode cX3_settle 1 = .ok (.getfield 22, 3) := by decide +kernel
theorem dX3_settle_4 : decode cX3_settle 4 = .ok (.iconst 0, 1) := by decide +kernel
theorem dX3_settle_5 : decode cX3_settle 5 = .ok (.iconst 0, 1) := by decide +kernel
theorem dX3_settle_6 : decode cX3_settle 6 = .ok (.iastore, 1) := by decide +kernel
theorem dX3_settle_7 : decode cX3_settle 7 = .ok (.aload_n 0, 1) := by decide +kernel
theorem dX3_settle_8 : decode cX3_settle 8 = .ok (.getfield 25, 3) := by decide +kernel
theorem dX3_settle_11 : decode cX3_settle 11 = .ok (.iconst 0, 1) := by decide +kernel
theorem dX3_settle_12 : decode cX3_settle 12 = .ok (.iconst 1, 1) := by decide +kernel
theorem dX3_settle_13 : decode cX3_settle 13 = .ok (.bastore, 1) := by decide +kernel
theorem dX3_settle_14 : decode cX3_settle 14 = .ok (.iconst 0, 1) := by decide +kernel
theorem dX3_settle_15 : decode cX3_settle 15 = .ok (.istore_n 1, 1) := by decide +kernel
theorem dX3_settle_16 : decode cX3_settle 16 = .ok (.iload_n 1, 1) := by decide +kernel
theorem dX3_settle_17 : decode cX3_settle 17 = .ok (.aload_n 0, 1) := by decide +kernel
theorem dX3_settle_18 : decode cX3_settle 18 = .ok (.getfield 35, 3) := by decide +kernel
theorem dX3_settle_21 : decode cX3_settle 21 = .ok (.if_icmp .ge 86, 3) := by decide +kernel
theorem dX3_settle_24 : decode cX3_settle 24 = .ok (.iload_n 1, 1) := by decide +kernel
theorem dX3_settle_25 : decode cX3_settle 25 = .ok (.bipush 7, 2) := by decide +kernel
theorem dX3_settle_27 : decode cX3_settle 27 = .ok (.if_icmp .ge 80, 3) := by decide +kernel
theorem dX3_settle_30 : decode cX3_settle 30 = .ok (.iconst 1, 1) := by decide +kernel
theorem dX3_settle_31 : decode cX3_settle 31 = .ok (.iload_n 1, 1) := by decide +kernel
theorem dX3_settle_32 : decode cX3_settle 32 = .ok (.ishl, 1) := by decide +kernel
theorem dX3_settle_33 : decode cX3_settle 33 = .ok (.istore_n 2, 1) := by decide +kernel
theorem dX3_settle_34 : decode cX3_settle 34 = .ok (.iconst 0, 1) := by decide +kernel
theorem dX3_settle_35 : decode cX3_settle 35 = .ok (.istore_n 3, 1) := by decide +kernel
theorem dX3_settle_36 : decode cX3_settle 36 = .ok (.iload_n 3, 1) := by decide +kernel
theorem dX3_settle_37 : decode cX3_settle 37 = .ok (.iload_n 2, 1) := by decide +kernel
theorem dX3_settle_38 : decode cX3_settle 38 = .ok (.if_icmp .ge 63, 3) := by decide +kernel
theorem dX3_settle_41 : decode cX3_settle 41 = .ok (.aload_n 0, 1) := by decide +kernel
theorem dX3_settle_42 : decode cX3_settle 42 = .ok (.getfield 22, 3) := by decide +kernel
theorem dX3_settle_45 : decode cX3_settle 45 = .ok (.iload_n 2, 1) := by decide +kernel
theorem dX3_settle_46 : decode cX3_settle 46 = .ok (.iload_n 3, 1) := by decide +kernel
theorem dX3_settle_47 : decode cX3_settle 47 = .ok (.ior, 1) := by decide +kernel
theorem dX3_settle_48 : decode cX3_settle 48 = .ok (.aload_n 0, 1) := by decide +kernel
theorem dX3_settle_49 : decode cX3_settle 49 = .ok (.getfield 22, 3) := by decide +kernel
theorem dX3_settle_52 : decode cX3_settle 52 = .ok (.iload_n 3, 1) := by decide +kernel
theorem dX3_settle_53 : decode cX3_settle 53 = .ok (.iaload, 1) := by decide +kernel
theorem dX3_settle_54 : decode cX3_settle 54 = .ok (.aload_n 0, 1) := by decide +kernel
theorem dX3_settle_55 : decode cX3_settle 55 = .ok (.getfield 16, 3) := by decide +kernel
theorem dX3_settle_58 : decode cX3_settle 58 = .ok (.iload_n 1, 1) := by decide +kernel
theorem dX3_settle_59 : decode cX3_settle 59 = .ok (.iaload, 1) := by decide +kernel
theorem dX3_settle_60 : decode cX3_settle 60 = .ok (.iadd, 1) := by decide +kernel
theorem dX3_settle_61 : decode cX3_settle 61 = .ok (.iastore, 1) := by decide +kernel
theorem dX3_settle_62 : decode cX3_settle 62 = .ok (.aload_n 0, 1) := by decide +kernel
theorem dX3_settle_63 : decode cX3_settle 63 = .ok (.getfield 25, 3) := by decide +kernel
theorem dX3_settle_66 : decode cX3_settle 66 = .ok (.iload_n 2, 1) := by decide +kernel
theorem dX3_settle_67 : decode cX3_settle 67 = .ok (.iload_n 3, 1) := by decide +kernel
theorem dX3_settle_68 : decode cX3_settle 68 = .ok (.ior, 1) := by decide +kernel
theorem dX3_settle_69 : decode cX3_settle 69 = .ok (.aload_n 0, 1) := by decide +kernel
theorem dX3_settle_70 : decode cX3_settle 70 = .ok (.getfield 25, 3) := by decide +kernel
theorem dX3_settle_73 : decode cX3_settle 73 = .ok (.iload_n 3, 1) := by decide +kernel
theorem dX3_settle_74 : decode cX3_settle 74 = .ok (.baload, 1) := by decide +kernel
theorem dX3_settle_75 : decode cX3_settle 75 = .ok (.ifCond .eq 18, 3) := by decide +kernel
theorem dX3_settle_78 : decode cX3_settle 78 = .ok (.aload_n 0, 1) := by decide +kernel
theorem dX3_settle_79 : decode cX3_settle 79 = .ok (.getfield 19, 3) := by decide +kernel
theorem dX3_settle_82 : decode cX3_settle 82 = .ok (.iload_n 1, 1) := by decide +kernel
theorem dX3_settle_83 : decode cX3_settle 83 = .ok (.iaload, 1) := by decide +kernel
theorem dX3_settle_84 : decode cX3_settle 84 = .ok (.iload_n 3, 1) := by decide +kernel
theorem dX3_settle_85 : decode cX3_settle 85 = .ok (.iand, 1) := by decide +kernel
theorem dX3_settle_86 : decode cX3_settle 86 = .ok (.ifCond .ne 7, 3) := by decide +kernel
theorem dX3_settle_89 : decode cX3_settle 89 = .ok (.iconst 1, 1) := by decide +kernel
theorem dX3_settle_90 : decode cX3_settle 90 = .ok (.goto 4, 3) := by decide +kernel
theorem dX3_settle_93 : decode cX3_settle 93 = .ok (.iconst 0, 1) := by decide +kernel
theorem dX3_settle_94 : decode cX3_settle 94 = .ok (.bastore, 1) := by decide +kernel
theorem dX3_settle_95 : decode cX3_settle 95 = .ok (.iinc 3 1, 3) := by decide +kernel
theorem dX3_settle_98 : decode cX3_settle 98 = .ok (.goto (-62), 3) := by decide +kernel
theorem dX3_settle_101 : decode cX3_settle 101 = .ok (.iinc 1 1, 3) := by decide +kernel
theorem dX3_settle_104 : decode cX3_settle 104 = .ok (.goto (-88), 3) := by decide +kernel
theorem dX3_settle_107 : decode cX3_settle 107 = .ok (.return_, 1) := by decide +kernel
theorem dX3_has_0 : decode cX3_has 0 = .ok (.iload_n 1, 1) := by decide +kernel
theorem dX3_has_1 : decode cX3_has 1 = .ok (.ifCond .lt 15, 3) := by decide +kernel
theorem dX3_has_4 : decode cX3_has 4 = .ok (.iload_n 1, 1) := by decide +kernel
theorem dX3_has_5 : decode cX3_has 5 = .ok (.aload_n 0, 1) := by decide +kernel
theorem dX3_has_6 : decode cX3_has 6 = .ok (.getfield 35, 3) := by decide +kernel
theorem dX3_has_9 : decode cX3_has 9 = .ok (.if_icmp .ge 7, 3) := by decide +kernel
theorem dX3_has_12 : decode cX3_has 12 = .ok (.iconst 1, 1) := by decide +kernel
theorem dX3_has_13 : decode cX3_has 13 = .ok (.goto 4, 3) := by decide +kernel
theorem dX3_has_16 : decode cX3_has 16 = .ok (.iconst 0, 1) := by decide +kernel
theorem dX3_has_17 : decode cX3_has 17 = .ok (.ireturn, 1) := by decide +kernel
theorem dX3_ferryOf_0 : decode cX3_ferryOf 0 = .ok (.iload_n 0, 1) := by decide +kernel
theorem dX3_ferryOf_1 : decode cX3_ferryOf 1 = .ok (.sipush 128, 3) := by decide +kernel
theorem dX3_ferryOf_4 : decode cX3_ferryOf 4 = .ok (.iand, 1) := by decide +kernel
theorem dX3_ferryOf_5 : decode cX3_ferryOf 5 = .ok (.ifCond .eq 7, 3) := by decide +kernel
theorem dX3_ferryOf_8 : decode cX3_ferryOf 8 = .ok (.iconst 1, 1) := by decide +kernel
theorem dX3_ferryOf_9 : decode cX3_ferryOf 9 = .ok (.goto 4, 3) := by decide +kernel
theorem dX3_ferryOf_12 : decode cX3_ferryOf 12 = .ok (.iconst 0, 1) := by decide +kernel
theorem dX3_ferryOf_13 : decode cX3_ferryOf 13 = .ok (.ireturn, 1) := by decide +kernel
theorem dX3_atFerry_0 : decode cX3_atFerry 0 = .ok (.iload_n 1, 1) := by decide +kernel
theorem dX3_atFerry_1 : decode cX3_atFerry 1 = .ok (.invokestatic 67, 3) := by decide +kernel
theorem dX3_atFerry_4 : decode cX3_atFerry 4 = .ok (.iconst 1, 1) := by decide +kernel
theorem dX3_atFerry_5 : decode cX3_atFerry 5 = .ok (.if_icmp .ne 7, 3) := by decide +kernel
theorem dX3_atFerry_8 : decode cX3_atFerry 8 = .ok (.iload_n 1, 1) := by decide +kernel
theorem dX3_atFerry_9 : decode cX3_atFerry 9 = .ok (.goto 6, 3) := by decide +kernel
theorem dX3_atFerry_12 : decode cX3_atFerry 12 = .ok (.iload_n 1, 1) := by decide +kernel
theorem dX3_atFerry_13 : decode cX3_atFerry 13 = .ok (.iconst (-1), 1) := by decide +kernel
theorem dX3_atFerry_14 : decode cX3_atFerry 14 = .ok (.ixor, 1) := by decide +kernel
theorem dX3_atFerry_15 : decode cX3_atFerry 15 = .ok (.aload_n 0, 1) := by decide +kernel
theorem dX3_atFerry_16 : decode cX3_atFerry 16 = .ok (.getfield 39, 3) := by decide +kernel
theorem dX3_atFerry_19 : decode cX3_atFerry 19 = .ok (.iand, 1) := by decide +kernel
theorem dX3_atFerry_20 : decode cX3_atFerry 20 = .ok (.ireturn, 1) := by decide +kernel
theorem dX3_setsOf_0 : decode cX3_setsOf 0 = .ok (.iconst 1, 1) := by decide +kernel
theorem dX3_setsOf_1 : decode cX3_setsOf 1 = .ok (.iload_n 0, 1) := by decide +kernel
theorem dX3_setsOf_2 : decode cX3_setsOf 2 = .ok (.invokestatic 71, 3) := by decide +kernel
theorem dX3_setsOf_5 : decode cX3_setsOf 5 = .ok (.ishl, 1) := by decide +kernel
theorem dX3_setsOf_6 : decode cX3_setsOf 6 = .ok (.ireturn, 1) := by decide +kernel
theorem dX3_nextSet_0 : decode cX3_nextSet 0 = .ok (.iload_n 0, 1) := by decide +kernel
theorem dX3_nextSet_1 : decode cX3_nextSet 1 = .ok (.iload_n 1, 1) := by decide +kernel
theorem dX3_nextSet_2 : decode cX3_nextSet 2 = .ok (.isub, 1) := by decide +kernel
theorem dX3_nextSet_3 : decode cX3_nextSet 3 = .ok (.iload_n 1, 1) := by decide +kernel
theorem dX3_nextSet_4 : decode cX3_nextSet 4 = .ok (.iand, 1) := by decide +kernel
theorem dX3_nextSet_5 : decode cX3_nextSet 5 = .ok (.ireturn, 1) := by decide +kernel
theorem dX3_isSafe_0 : decode cX3_isSafe 0 = .ok (.aload_n 0, 1) := by decide +kernel
theorem dX3_isSafe_1 : decode cX3_isSafe 1 = .ok (.getfield 25, 3) := by decide +kernel
theorem dX3_isSafe_4 : decode cX3_isSafe 4 = .ok (.aload_n 0, 1) := by decide +kernel
theorem dX3_isSafe_5 : decode cX3_isSafe 5 = .ok (.getfield 39, 3) := by decide +kernel
theorem dX3_isSafe_8 : decode cX3_isSafe 8 = .ok (.aload_n 0, 1) := by decide +kernel
theorem dX3_isSafe_9 : decode cX3_isSafe 9 = .ok (.iload_n 1, 1) := by decide +kernel
theorem dX3_isSafe_10 : decode cX3_isSafe 10 = .ok (.invokevirtual 76, 3) := by decide +kernel
theorem dX3_isSafe_13 : decode cX3_isSafe 13 = .ok (.iconst (-1), 1) := by decide +kernel
theorem dX3_isSafe_14 : decode cX3_isSafe 14 = .ok (.ixor, 1) := by decide +kernel
theorem dX3_isSafe_15 : decode cX3_isSafe 15 = .ok (.iand, 1) := by decide +kernel
theorem dX3_isSafe_16 : decode cX3_isSafe 16 = .ok (.baload, 1) := by decide +kernel
theorem dX3_isSafe_17 : decode cX3_isSafe 17 = .ok (.ireturn, 1) := by decide +kernel
theorem dX3_wrongOf_0 : decode cX3_wrongOf 0 = .ok (.iload_n 1, 1) := by decide +kernel
theorem dX3_wrongOf_1 : decode cX3_wrongOf 1 = .ok (.aload_n 0, 1) := by decide +kernel
theorem dX3_wrongOf_2 : decode cX3_wrongOf 2 = .ok (.getfield 57, 3) := by decide +kernel
theorem dX3_wrongOf_5 : decode cX3_wrongOf 5 = .ok (.iand, 1) := by decide +kernel
theorem dX3_wrongOf_6 : decode cX3_wrongOf 6 = .ok (.iload_n 1, 1) := by decide +kernel
theorem dX3_wrongOf_7 : decode cX3_wrongOf 7 = .ok (.iconst (-1), 1) := by decide +kernel
theorem dX3_wrongOf_8 : decode cX3_wrongOf 8 = .ok (.ixor, 1) := by decide +kernel
theorem dX3_wrongOf_9 : decode cX3_wrongOf 9 = .ok (.aload_n 0, 1) := by decide +kernel
theorem dX3_wrongOf_10 : decode cX3_wrongOf 10 = .ok (.getfield 60, 3) := by decide +kernel
theorem dX3_wrongOf_13 : decode cX3_wrongOf 13 = .ok (.iand, 1) := by decide +kernel
theorem dX3_wrongOf_14 : decode cX3_wrongOf 14 = .ok (.ior, 1) := by decide +kernel
theorem dX3_wrongOf_15 : decode cX3_wrongOf 15 = .ok (.ireturn, 1) := by decide +kernel
theorem dX3_rentOf_0 : decode cX3_rentOf 0 = .ok (.aload_n 0, 1) := by decide +kernel
theorem dX3_rentOf_1 : decode cX3_rentOf 1 = .ok (.iload_n 1, 1) := by decide +kernel
theorem dX3_rentOf_2 : decode cX3_rentOf 2 = .ok (.invokevirtual 79, 3) := by decide +kernel
theorem dX3_rentOf_5 : decode cX3_rentOf 5 = .ok (.istore_n 2, 1) := by decide +kernel
theorem dX3_rentOf_6 : decode cX3_rentOf 6 = .ok (.iconst 0, 1) := by decide +kernel
theorem dX3_rentOf_7 : decode cX3_rentOf 7 = .ok (.istore_n 3, 1) := by decide +kernel
theorem dX3_rentOf_8 : decode cX3_rentOf 8 = .ok (.iconst 0, 1) := by decide +kernel
theorem dX3_rentOf_9 : decode cX3_rentOf 9 = .ok (.istore 4, 2) := by decide +kernel
theorem dX3_rentOf_11 : decode cX3_rentOf 11 = .ok (.iload 4, 2) := by decide +kernel
theorem dX3_rentOf_13 : decode cX3_rentOf 13 = .ok (.aload_n 0, 1) := by decide +kernel
theorem dX3_rentOf_14 : decode cX3_rentOf 14 = .ok (.getfield 35, 3) := by decide +kernel
theorem dX3_rentOf_17 : decode cX3_rentOf 17 = .ok (.if_icmp .ge 32, 3) := by decide +kernel
theorem dX3_rentOf_20 : decode cX3_rentOf 20 = .ok (.iload_n 3, 1) := by decide +kernel
theorem dX3_rentOf_21 : decode cX3_rentOf 21 = .ok (.iload_n 2, 1) := by decide +kernel
theorem dX3_rentOf_22 : decode cX3_rentOf 22 = .ok (.iconst 1, 1) := by decide +kernel
theorem dX3_rentOf_23 : decode cX3_rentOf 23 = .ok (.iload 4, 2) := by decide +kernel
theorem dX3_rentOf_25 : decode cX3_rentOf 25 = .ok (.ishl, 1) := by decide +kernel
theorem dX3_rentOf_26 : decode cX3_rentOf 26 = .ok (.iand, 1) := by decide +kernel
theorem dX3_rentOf_27 : decode cX3_rentOf 27 = .ok (.ifCond .eq 13, 3) := by decide +kernel
theorem dX3_rentOf_30 : decode cX3_rentOf 30 = .ok (.aload_n 0, 1) := by decide +kernel
theorem dX3_rentOf_31 : decode cX3_rentOf 31 = .ok (.getfield 13, 3) := by decide +kernel
theorem dX3_rentOf_34 : decode cX3_rentOf 34 = .ok (.iload 4, 2) := by decide +kernel
theorem dX3_rentOf_36 : decode cX3_rentOf 36 = .ok (.iaload, 1) := by decide +kernel
theorem dX3_rentOf_37 : decode cX3_rentOf 37 = .ok (.goto 4, 3) := by decide +kernel
theorem dX3_rentOf_40 : decode cX3_rentOf 40 = .ok (.iconst 0, 1) := by decide +kernel
theorem dX3_rentOf_41 : decode cX3_rentOf 41 = .ok (.iadd, 1) := by decide +kernel
theorem dX3_rentOf_42 : decode cX3_rentOf 42 = .ok (.istore_n 3, 1) := by decide +kernel
theorem dX3_rentOf_43 : decode cX3_rentOf 43 = .ok (.iinc 4 1, 3) := by decide +kernel
theorem dX3_rentOf_46 : decode cX3_rentOf 46 = .ok (.goto (-35), 3) := by decide +kernel
theorem dX3_rentOf_49 : decode cX3_rentOf 49 = .ok (.iload_n 3, 1) := by decide +kernel
theorem dX3_rentOf_50 : decode cX3_rentOf 50 = .ok (.ireturn, 1) := by decide +kernel
theorem dX3_crossing_0 : decode cX3_crossing 0 = .ok (.aload_n 0, 1) := by decide +kernel
theorem dX3_crossing_1 : decode cX3_crossing 1 = .ok (.iload_n 1, 1) := by decide +kernel
theorem dX3_crossing_2 : decode cX3_crossing 2 = .ok (.invokevirtual 76, 3) := by decide +kernel
theorem dX3_crossing_5 : decode cX3_crossing 5 = .ok (.iload 4, 2) := by decide +kernel
theorem dX3_crossing_7 : decode cX3_crossing 7 = .ok (.iand, 1) := by decide +kernel
theorem dX3_crossing_8 : decode cX3_crossing 8 = .ok (.istore 5, 2) := by decide +kernel
theorem dX3_crossing_10 : decode cX3_crossing 10 = .ok (.iload_n 2, 1) := by decide +kernel
theorem dX3_crossing_11 : decode cX3_crossing 11 = .ok (.iload 5, 2) := by decide +kernel
theorem dX3_crossing_13 : decode cX3_crossing 13 = .ok (.iconst (-1), 1) := by decide +kernel
theorem dX3_crossing_14 : decode cX3_crossing 14 = .ok (.ixor, 1) := by decide +kernel
theorem dX3_crossing_15 : decode cX3_crossing 15 = .ok (.iand, 1) := by decide +kernel
theorem dX3_crossing_16 : decode cX3_crossing 16 = .ok (.ifCond .ne 27, 3) := by decide +kernel
theorem dX3_crossing_19 : decode cX3_crossing 19 = .ok (.aload_n 0, 1) := by decide +kernel
theorem dX3_crossing_20 : decode cX3_crossing 20 = .ok (.getfield 22, 3) := by decide +kernel
theorem dX3_crossing_23 : decode cX3_crossing 23 = .ok (.iload_n 2, 1) := by decide +kernel
theorem dX3_crossing_24 : decode cX3_crossing 24 = .ok (.iaload, 1) := by decide +kernel
theorem dX3_crossing_25 : decode cX3_crossing 25 = .ok (.iload_n 3, 1) := by decide +kernel
theorem dX3_crossing_26 : decode cX3_crossing 26 = .ok (.if_icmp .gt 17, 3) := by decide +kernel
theorem dX3_crossing_29 : decode cX3_crossing 29 = .ok (.aload_n 0, 1) := by decide +kernel
theorem dX3_crossing_30 : decode cX3_crossing 30 = .ok (.getfield 25, 3) := by decide +kernel
theorem dX3_crossing_33 : decode cX3_crossing 33 = .ok (.iload 5, 2) := by decide +kernel
theorem dX3_crossing_35 : decode cX3_crossing 35 = .ok (.iload_n 2, 1) := by decide +kernel
theorem dX3_crossing_36 : decode cX3_crossing 36 = .ok (.iconst (-1), 1) := by decide +kernel
theorem dX3_crossing_37 : decode cX3_crossing 37 = .ok (.ixor, 1) := by decide +kernel
theorem dX3_crossing_38 : decode cX3_crossing 38 = .ok (.iand, 1) := by decide +kernel
theorem dX3_crossing_39 : decode cX3_crossing 39 = .ok (.baload, 1) := by decide +kernel
theorem dX3_crossing_40 : decode cX3_crossing 40 = .ok (.ifCond .ne 5, 3) := by decide +kernel
theorem dX3_crossing_43 : decode cX3_crossing 43 = .ok (.iconst (-1), 1) := by decide +kernel
theorem dX3_crossing_44 : decode cX3_crossing 44 = .ok (.ireturn, 1) := by decide +kernel
theorem dX3_crossing_45 : decode cX3_crossing 45 = .ok (.iload_n 1, 1) := by decide +kernel
theorem dX3_crossing_46 : decode cX3_crossing 46 = .ok (.iload_n 2, 1) := by decide +kernel
theorem dX3_crossing_47 : decode cX3_crossing 47 = .ok (.ixor, 1) := by decide +kernel
theorem dX3_crossing_48 : decode cX3_crossing 48 = .ok (.sipush 128, 3) := by decide +kernel
theorem dX3_crossing_51 : decode cX3_crossing 51 = .ok (.ixor, 1) := by decide +kernel
theorem dX3_crossing_52 : decode cX3_crossing 52 = .ok (.ireturn, 1) := by decide +kernel
theorem dX4_init_0 : decode cX4_init 0 = .ok (.aload_n 0, 1) := by decide +kernel
theorem dX4_init_1 : decode cX4_init 1 = .ok (.invokespecial 3, 3) := by decide +kernel
theorem dX4_init_4 : decode cX4_init 4 = .ok (.aload_n 0, 1) := by decide +kernel
theorem dX4_init_5 : decode cX4_init 5 = .ok (.iconst 0, 1) := by decide +kernel
theorem dX4_init_6 : decode cX4_init 6 = .ok (.putfield 9, 3) := by decide +kernel
theorem dX4_init_9 : decode cX4_init 9 = .ok (.aload_n 0, 1) := by decide +kernel
theorem dX4_init_10 : decode cX4_init 10 = .ok (.bipush 8, 2) := by decide +kernel
theorem dX4_init_12 : decode cX4_init 12 = .ok (.newarray .int, 2) := by decide +kernel
theorem dX4_init_14 : decode cX4_init 14 = .ok (.putfield 15, 3) := by decide +kernel
theorem dX4_init_17 : decode cX4_init 17 = .ok (.aload_n 0, 1) := by decide +kernel
theorem dX4_init_18 : decode cX4_init 18 = .ok (.bipush 8, 2) := by decide +kernel
theorem dX4_init_20 : decode cX4_init 20 = .ok (.newarray .int, 2) := by decide +kernel
theorem dX4_init_22 : decode cX4_init 22 = .ok (.putfield 19, 3) := by decide +kernel
theorem dX4_init_25 : decode cX4_init 25 = .ok (.aload_n 0, 1) := by decide +kernel
theorem dX4_init_26 : decode cX4_init 26 = .ok (.bipush 8, 2) := by decide +kernel
theorem dX4_init_28 : decode cX4_init 28 = .ok (.newarray .int, 2) := by decide +kernel
theorem dX4_init_30 : decode cX4_init 30 = .ok (.putfield 22, 3) := by decide +kernel
theorem dX4_init_33 : decode cX4_init 33 = .ok (.aload_n 0, 1) := by decide +kernel
theorem dX4_init_34 : decode cX4_init 34 = .ok (.bipush 6, 2) := by decide +kernel
theorem dX4_init_36 : decode cX4_init 36 = .ok (.sipush 256, 3) := by decide +kernel
theorem dX4_init_39 : decode cX4_init 39 = .ok (.multianewarray 27 2, 4) := by decide +kernel
theorem dX4_init_43 : decode cX4_init 43 = .ok (.putfield 29, 3) := by decide +kernel
theorem dX4_init_46 : decode cX4_init 46 = .ok (.return_, 1) := by decide +kernel
theorem dX4_add_0 : decode cX4_add 0 = .ok (.aload_n 0, 1) := by decide +kernel
theorem dX4_add_1 : decode cX4_add 1 = .ok (.getfield 9, 3) := by decide +kernel
theorem dX4_add_4 : decode cX4_add 4 = .ok (.bipush 8, 2) := by decide +kernel
theorem dX4_add_6 : decode cX4_add 6 = .ok (.if_icmp .lt 4, 3) := by decide +kernel
theorem dX4_add_9 : decode cX4_add 9 = .ok (.return_, 1) := by decide +kernel
theorem dX4_add_10 : decode cX4_add 10 = .ok (.aload_n 0, 1) := by decide +kernel
theorem dX4_add_11 : decode cX4_add 11 = .ok (.getfield 15, 3) := by decide +kernel
theorem dX4_add_14 : decode cX4_add 14 = .ok (.aload_n 0, 1) := by decide +kernel
theorem dX4_add_15 : decode cX4_add 15 = .ok (.getfield 9, 3) := by decide +kernel
theorem dX4_add_18 : decode cX4_add 18 = .ok (.iload_n 1, 1) := by decide +kernel
theorem dX4_add_19 : decode cX4_add 19 = .ok (.iastore, 1) := by decide +kernel
theorem dX4_add_20 : decode cX4_add 20 = .ok (.aload_n 0, 1) := by decide +kernel
theorem dX4_add_21 : decode cX4_add 21 = .ok (.getfield 19, 3) := by decide +kernel
theorem dX4_add_24 : decode cX4_add 24 = .ok (.aload_n 0, 1) := by decide +kernel
theorem dX4_add_25 : decode cX4_add 25 = .ok (.getfield 9, 3) := by decide +kernel
theorem dX4_add_28 : decode cX4_add 28 = .ok (.iload_n 2, 1) := by decide +kernel
theorem dX4_add_29 : decode cX4_add 29 = .ok (.iastore, 1) := by decide +kernel
theorem dX4_add_30 : decode cX4_add 30 = .ok (.aload_n 0, 1) := by decide +kernel
theorem dX4_add_31 : decode cX4_add 31 = .ok (.getfield 22, 3) := by decide +kernel
theorem dX4_add_34 : decode cX4_add 34 = .ok (.aload_n 0, 1) := by decide +kernel
theorem dX4_add_35 : decode cX4_add 35 = .ok (.getfield 9, 3) := by decide +kernel
theorem dX4_add_38 : decode cX4_add 38 = .ok (.iload_n 3, 1) := by decide +kernel
theorem dX4_add_39 : decode cX4_add 39 = .ok (.iastore, 1) := by decide +kernel
theorem dX4_add_40 : decode cX4_add 40 = .ok (.aload_n 0, 1) := by decide +kernel
theorem dX4_add_41 : decode cX4_add 41 = .ok (.dup, 1) := by decide +kernel
theorem dX4_add_42 : decode cX4_add 42 = .ok (.getfield 9, 3) := by decide +kernel
theorem dX4_add_45 : decode cX4_add 45 = .ok (.iconst 1, 1) := by decide +kernel
theorem dX4_add_46 : decode cX4_add 46 = .ok (.iadd, 1) := by decide +kernel
theorem dX4_add_47 : decode cX4_add 47 = .ok (.putfield 9, 3) := by decide +kernel
theorem dX4_add_50 : decode cX4_add 50 = .ok (.return_, 1) := by decide +kernel
theorem dX4_dropAll_0 : decode cX4_dropAll 0 = .ok (.aload_n 0, 1) := by decide +kernel
theorem dX4_dropAll_1 : decode cX4_dropAll 1 = .ok (.iconst 0, 1) := by decide +kernel
theorem dX4_dropAll_2 : decode cX4_dropAll 2 = .ok (.putfield 9, 3) := by decide +kernel
theorem dX4_dropAll_5 : decode cX4_dropAll 5 = .ok (.return_, 1) := by decide +kernel
theorem dX4_agrees_0 : decode cX4_agrees 0 = .ok (.iconst 0, 1) := by decide +kernel
theorem dX4_agrees_1 : decode cX4_agrees 1 = .ok (.istore_n 3, 1) := by decide +kernel
theorem dX4_agrees_2 : decode cX4_agrees 2 = .ok (.iload_n 3, 1) := by decide +kernel
theorem dX4_agrees_3 : decode cX4_agrees 3 = .ok (.aload_n 0, 1) := by decide +kernel
theorem dX4_agrees_4 : decode cX4_agrees 4 = .ok (.getfield 9, 3) := by decide +kernel
theorem dX4_agrees_7 : decode cX4_agrees 7 = .ok (.if_icmp .ge 40, 3) := by decide +kernel
theorem dX4_agrees_10 : decode cX4_agrees 10 = .ok (.aload_n 0, 1) := by decide +kernel
theorem dX4_agrees_11 : decode cX4_agrees 11 = .ok (.getfield 15, 3) := by decide +kernel
theorem dX4_agrees_14 : decode cX4_agrees 14 = .ok (.iload_n 3, 1) := by decide +kernel
theorem dX4_agrees_15 : decode cX4_agrees 15 = .ok (.iaload, 1) := by decide +kernel
theorem dX4_agrees_16 : decode cX4_agrees 16 = .ok (.iload_n 1, 1) := by decide +kernel
theorem dX4_agrees_17 : decode cX4_agrees 17 = .ok (.if_icmp .ne 24, 3) := by decide +kernel
theorem dX4_agrees_20 : decode cX4_agrees 20 = .ok (.iload_n 2, 1) := by decide +kernel
theorem dX4_agrees_21 : decode cX4_agrees 21 = .ok (.aload_n 0, 1) := by decide +kernel
theorem dX4_agrees_22 : decode cX4_agrees 22 = .ok (.getfield 19, 3) := by decide +kernel
theorem dX4_agrees_25 : decode cX4_agrees 25 = .ok (.iload_n 3, 1) := by decide +kernel
theorem dX4_agrees_26 : decode cX4_agrees 26 = .ok (.iaload, 1) := by decide +kernel
theorem dX4_agrees_27 : decode cX4_agrees 27 = .ok (.ishr, 1) := by decide +kernel
theorem dX4_agrees_28 : decode cX4_agrees 28 = .ok (.iconst 1, 1) := by decide +kernel
theorem dX4_agrees_29 : decode cX4_agrees 29 = .ok (.iand, 1) := by decide +kernel
theorem dX4_agrees_30 : decode cX4_agrees 30 = .ok (.aload_n 0, 1) := by decide +kernel
theorem dX4_agrees_31 : decode cX4_agrees 31 = .ok (.getfield 22, 3) := by decide +kernel
theorem dX4_agrees_34 : decode cX4_agrees 34 = .ok (.iload_n 3, 1) := by decide +kernel
theorem dX4_agrees_35 : decode cX4_agrees 35 = .ok (.iaload, 1) := by decide +kernel
theorem dX4_agrees_36 : decode cX4_agrees 36 = .ok (.if_icmp .eq 5, 3) := by decide +kernel
theorem dX4_agrees_39 : decode cX4_agrees 39 = .ok (.iconst 0, 1) := by decide +kernel
theorem dX4_agrees_40 : decode cX4_agrees 40 = .ok (.ireturn, 1) := by decide +kernel
theorem dX4_agrees_41 : decode cX4_agrees 41 = .ok (.iinc 3 1, 3) := by decide +kernel
theorem dX4_agrees_44 : decode cX4_agrees 44 = .ok (.goto (-42), 3) := by decide +kernel
theorem dX4_agrees_47 : decode cX4_agrees 47 = .ok (.iconst 1, 1) := by decide +kernel
theorem dX4_agrees_48 : decode cX4_agrees 48 = .ok (.ireturn, 1) := by decide +kernel
theorem dX4_follow_0 : decode cX4_follow 0 = .ok (.iconst 0, 1) := by decide +kernel
theorem dX4_follow_1 : decode cX4_follow 1 = .ok (.istore_n 3, 1) := by decide +kernel
theorem dX4_follow_2 : decode cX4_follow 2 = .ok (.iload_n 3, 1) := by decide +kernel
theorem dX4_follow_3 : decode cX4_follow 3 = .ok (.iload_n 2, 1) := by decide +kernel
theorem dX4_follow_4 : decode cX4_follow 4 = .ok (.if_icmp .gt 19, 3) := by decide +kernel
theorem dX4_follow_7 : decode cX4_follow 7 = .ok (.aload_n 0, 1) := by decide +kernel
theorem dX4_follow_8 : decode cX4_follow 8 = .ok (.getfield 29, 3) := by decide +kernel
theorem dX4_follow_11 : decode cX4_follow 11 = .ok (.iload_n 3, 1) := by decide +kernel
theorem dX4_follow_12 : decode cX4_follow 12 = .ok (.aaload, 1) := by decide +kernel
theorem dX4_follow_13 : decode cX4_follow 13 = .ok (.lconst 0, 1) := by decide +kernel
theorem dX4_follow_14 : decode cX4_follow 14 = .ok (.invokestatic 32, 3) := by decide +kernel
theorem dX4_follow_17 : decode cX4_follow 17 = .ok (.iinc 3 1, 3) := by decide +kernel
theorem dX4_follow_20 : decode cX4_follow 20 = .ok (.goto (-18), 3) := by decide +kernel
theorem dX4_follow_23 : decode cX4_follow 23 = .ok (.aload_n 0, 1) := by decide +kernel
theorem dX4_follow_24 : decode cX4_follow 24 = .ok (.iconst 0, 1) := by decide +kernel
theorem dX4_follow_25 : decode cX4_follow 25 = .ok (.aload_n 1, 1) := by decide +kernel
theorem dX4_follow_26 : decode cX4_follow 26 = .ok (.getfield 38, 3) := by decide +kernel
theorem dX4_follow_29 : decode cX4_follow 29 = .ok (.invokevirtual 41, 3) := by decide +kernel
theorem dX4_follow_32 : decode cX4_follow 32 = .ok (.ifCond .eq 15, 3) := by decide +kernel
theorem dX4_follow_35 : decode cX4_follow 35 = .ok (.aload_n 0, 1) := by decide +kernel
theorem dX4_follow_36 : decode cX4_follow 36 = .ok (.getfield 29, 3) := by decide +kernel
theorem dX4_follow_39 : decode cX4_follow 39 = .ok (.iconst 0, 1) := by decide +kernel
theorem dX4_follow_40 : decode cX4_follow 40 = .ok (.aaload, 1) := by decide +kernel
theorem dX4_follow_41 : decode cX4_follow 41 = .ok (.aload_n 1, 1) := by decide +kernel
theorem dX4_follow_42 : decode cX4_follow 42 = .ok (.getfield 38, 3) := by decide +kernel
theorem dX4_follow_45 : decode cX4_follow 45 = .ok (.lconst 1, 1) := by decide +kernel
theorem dX4_follow_46 : decode cX4_follow 46 = .ok (.lastore, 1) := by decide +kernel
theorem dX4_follow_47 : decode cX4_follow 47 = .ok (.iconst 1, 1) := by decide +kernel
theorem dX4_follow_48 : decode cX4_follow 48 = .ok (.istore_n 3, 1) := by decide +kernel
theorem dX4_follow_49 : decode cX4_follow 49 = .ok (.iload_n 3, 1) := by decide +kernel
theorem dX4_follow_50 : decode cX4_follow 50 = .ok (.iload_n 2, 1) := by decide +kernel
theorem dX4_follow_51 : decode cX4_follow 51 = .ok (.if_icmp .gt 50, 3) := by decide +kernel
theorem dX4_follow_54 : decode cX4_follow 54 = .ok (.iconst 0, 1) := by decide +kernel
theorem dX4_follow_55 : decode cX4_follow 55 = .ok (.istore 4, 2) := by decide +kernel
theorem dX4_follow_57 : decode cX4_follow 57 = .ok (.iload 4, 2) := by decide +kernel
theorem dX4_follow_59 : decode cX4_follow 59 = .ok (.sipush 256, 3) := by decide +kernel
theorem dX4_follow_62 : decode cX4_follow 62 = .ok (.if_icmp .ge 33, 3) := by decide +kernel
theorem dX4_follow_65 : decode cX4_follow 65 = .ok (.aload_n 0, 1) := by decide +kernel
theorem dX4_follow_66 : decode cX4_follow 66 = .ok (.getfield 29, 3) := by decide +kernel
theorem dX4_follow_69 : decode cX4_follow 69 = .ok (.iload_n 3, 1) := by decide +kernel
theorem dX4_follow_70 : decode cX4_follow 70 = .ok (.iconst 1, 1) := by decide +kernel
theorem dX4_follow_71 : decode cX4_follow 71 = .ok (.isub, 1) := by decide +kernel
theorem dX4_follow_72 : decode cX4_follow 72 = .ok (.aaload, 1) := by decide +kernel
theorem dX4_follow_73 : decode cX4_follow 73 = .ok (.iload 4, 2) := by decide +kernel
theorem dX4_follow_75 : decode cX4_follow 75 = .ok (.laload, 1) := by decide +kernel
theorem dX4_follow_76 : decode cX4_follow 76 = .ok (.lconst 0, 1) := by decide +kernel
theorem dX4_follow_77 : decode cX4_follow 77 = .ok (.lcmp, 1) := by decide +kernel
theorem dX4_follow_78 : decode cX4_follow 78 = .ok (.ifCond .eq 11, 3) := by decide +kernel
theorem dX4_follow_81 : decode cX4_follow 81 = .ok (.aload_n 0, 1) := by decide +kernel
theorem dX4_follow_82 : decode cX4_follow 82 = .ok (.aload_n 1, 1) := by decide +kernel
theorem dX4_follow_83 : decode cX4_follow 83 = .ok (.iload 4, 2) := by decide +kernel
theorem dX4_follow_85 : decode cX4_follow 85 = .ok (.iload_n 3, 1) := by decide +kernel
theorem dX4_follow_86 : decode cX4_follow 86 = .ok (.invokevirtual 45, 3) := by decide +kernel
theorem dX4_follow_89 : decode cX4_follow 89 = .ok (.iinc 4 1, 3) := by decide +kernel
theorem dX4_follow_92 : decode cX4_follow 92 = .ok (.goto (-35), 3) := by decide +kernel
theorem dX4_follow_95 : decode cX4_follow 95 = .ok (.iinc 3 1, 3) := by decide +kernel
theorem dX4_follow_98 : decode cX4_follow 98 = .ok (.goto (-49), 3) := by decide +kernel
theorem dX4_follow_101 : decode cX4_follow 101 = .ok (.return_, 1) := by decide +kernel
theorem dX4_followFrom_0 : decode cX4_followFrom 0 = .ok (.aload_n 1, 1) := by decide +kernel
theorem dX4_followFrom_1 : decode cX4_followFrom 1 = .ok (.iload_n 2, 1) := by decide +kernel
theorem dX4_followFrom_2 : decode cX4_followFrom 2 = .ok (.invokevirtual 49, 3) := by decide +kernel
theorem dX4_followFrom_5 : decode cX4_followFrom 5 = .ok (.istore 4, 2) := by decide +kernel
theorem dX4_followFrom_7 : decode cX4_followFrom 7 = .ok (.iload 4, 2) := by decide +kernel
theorem dX4_followFrom_9 : decode cX4_followFrom 9 = .ok (.invokestatic 53, 3) := by decide +kernel
theorem dX4_followFrom_12 : decode cX4_followFrom 12 = .ok (.istore 5, 2) := by decide +kernel
theorem dX4_followFrom_14 : decode cX4_followFrom 14 = .ok (.iconst 0, 1) := by decide +kernel
theorem dX4_followFrom_15 : decode cX4_followFrom 15 = .ok (.istore 6, 2) := by decide +kernel
theorem dX4_followFrom_17 : decode cX4_followFrom 17 = .ok (.iconst 0, 1) := by decide +kernel
theorem dX4_followFrom_18 : decode cX4_followFrom 18 = .ok (.istore 7, 2) := by decide +kernel
theorem dX4_followFrom_20 : decode cX4_followFrom 20 = .ok (.iload 7, 2) := by decide +kernel
theorem dX4_followFrom_22 : decode cX4_followFrom 22 = .ok (.iload 5, 2) := by decide +kernel
theorem dX4_followFrom_24 : decode cX4_followFrom 24 = .ok (.if_icmp .ge 72, 3) := by decide +kernel
theorem dX4_followFrom_27 : decode cX4_followFrom 27 = .ok (.aload_n 1, 1) := by decide +kernel
theorem dX4_followFrom_28 : decode cX4_followFrom 28 = .ok (.iload_n 2, 1) := by decide +kernel
theorem dX4_followFrom_29 : decode cX4_followFrom 29 = .ok (.iload 6, 2) := by decide +kernel
theorem dX4_followFrom_31 : decode cX4_followFrom 31 = .ok (.aload_n 1, 1) := by decide +kernel
theorem dX4_followFrom_32 : decode cX4_followFrom 32 = .ok (.getfield 56, 3) := by decide +kernel
theorem dX4_followFrom_35 : decode cX4_followFrom 35 = .ok (.aload_n 1, 1) := by decide +kernel
theorem dX4_followFrom_36 : decode cX4_followFrom 36 = .ok (.getfield 59, 3) := by decide +kernel
theorem dX4_followFrom_39 : decode cX4_followFrom 39 = .ok (.invokevirtual 62, 3) := by decide +kernel
theorem dX4_followFrom_42 : decode cX4_followFrom 42 = .ok (.istore 8, 2) := by decide +kernel
theorem dX4_followFrom_44 : decode cX4_followFrom 44 = .ok (.iload 8, 2) := by decide +kernel
theorem dX4_followFrom_46 : decode cX4_followFrom 46 = .ok (.ifCond .lt 35, 3) := by decide +kernel
theorem dX4_followFrom_49 : decode cX4_followFrom 49 = .ok (.aload_n 0, 1) := by decide +kernel
theorem dX4_followFrom_50 : decode cX4_followFrom 50 = .ok (.iload_n 3, 1) := by decide +kernel
theorem dX4_followFrom_51 : decode cX4_followFrom 51 = .ok (.iload 8, 2) := by decide +kernel
theorem dX4_followFrom_53 : decode cX4_followFrom 53 = .ok (.invokevirtual 41, 3) := by decide +kernel
theorem dX4_followFrom_56 : decode cX4_followFrom 56 = .ok (.ifCond .eq 25, 3) := by decide +kernel
theorem dX4_followFrom_59 : decode cX4_followFrom 59 = .ok (.aload_n 0, 1) := by decide +kernel
theorem dX4_followFrom_60 : decode cX4_followFrom 60 = .ok (.getfield 29, 3) := by decide +kernel
theorem dX4_followFrom_63 : decode cX4_followFrom 63 = .ok (.iload_n 3, 1) := by decide +kernel
theorem dX4_followFrom_64 : decode cX4_followFrom 64 = .ok (.aaload, 1) := by decide +kernel
theorem dX4_followFrom_65 : decode cX4_followFrom 65 = .ok (.iload 8, 2) := by decide +kernel
theorem dX4_followFrom_67 : decode cX4_followFrom 67 = .ok (.dup2, 1) := by decide +kernel
theorem dX4_followFrom_68 : decode cX4_followFrom 68 = .ok (.laload, 1) := by decide +kernel
theorem dX4_followFrom_69 : decode cX4_followFrom 69 = .ok (.aload_n 0, 1) := by decide +kernel
theorem dX4_followFrom_70 : decode cX4_followFrom 70 = .ok (.getfield 29, 3) := by decide +kernel
theorem dX4_followFrom_73 : decode cX4_followFrom 73 = .ok (.iload_n 3, 1) := by decide +kernel
theorem dX4_followFrom_74 : decode cX4_followFrom 74 = .ok (.iconst 1, 1) := by decide +kernel
theorem dX4_followFrom_75 : decode cX4_followFrom 75 = .ok (.isub, 1) := by decide +kernel
theorem dX4_followFrom_76 : decode cX4_followFrom 76 = .ok (.aaload, 1) := by decide +kernel
theorem dX4_followFrom_77 : decode cX4_followFrom 77 = .ok (.iload_n 2, 1) := by decide +kernel
theorem dX4_followFrom_78 : decode cX4_followFrom 78 = .ok (.laload, 1) := by decide +kernel
theorem dX4_followFrom_79 : decode cX4_followFrom 79 = .ok (.ladd, 1) := by decide +kernel
theorem dX4_followFrom_80 : decode cX4_followFrom 80 = .ok (.lastore, 1) := by decide +kernel
theorem dX4_followFrom_81 : decode cX4_followFrom 81 = .ok (.iload 6, 2) := by decide +kernel
theorem dX4_followFrom_83 : decode cX4_followFrom 83 = .ok (.iload 4, 2) := by decide +kernel
theorem dX4_followFrom_85 : decode cX4_followFrom 85 = .ok (.invokestatic 66, 3) := by decide +kernel
theorem dX4_followFrom_88 : decode cX4_followFrom 88 = .ok (.istore 6, 2) := by decide +kernel
theorem dX4_followFrom_90 : decode cX4_followFrom 90 = .ok (.iinc 7 1, 3) := by decide +kernel
theorem dX4_followFrom_93 : decode cX4_followFrom 93 = .ok (.goto (-73), 3) := by decide +kernel
theorem dX4_followFrom_96 : decode cX4_followFrom 96 = .ok (.return_, 1) := by decide +kernel
theorem dX4_waysOf_0 : decode cX4_waysOf 0 = .ok (.lconst 0, 1) := by decide +kernel
theorem dX4_waysOf_1 : decode cX4_waysOf 1 = .ok (.lstore_n 2, 1) := by decide +kernel
theorem dX4_waysOf_2 : decode cX4_waysOf 2 = .ok (.iconst 0, 1) := by decide +kernel
theorem dX4_waysOf_3 : decode cX4_waysOf 3 = .ok (.istore 4, 2) := by decide +kernel
theorem dX4_waysOf_5 : decode cX4_waysOf 5 = .ok (.iload 4, 2) := by decide +kernel
theorem dX4_waysOf_7 : decode cX4_waysOf 7 = .ok (.sipush 256, 3) := by decide +kernel
theorem dX4_waysOf_10 : decode cX4_waysOf 10 = .ok (.if_icmp .ge 21, 3) := by decide +kernel
theorem dX4_waysOf_13 : decode cX4_waysOf 13 = .ok (.lload_n 2, 1) := by decide +kernel
theorem dX4_waysOf_14 : decode cX4_waysOf 14 = .ok (.aload_n 0, 1) := by decide +kernel
theorem dX4_waysOf_15 : decode cX4_waysOf 15 = .ok (.getfield 29, 3) := by decide +kernel
theorem dX4_waysOf_18 : decode cX4_waysOf 18 = .ok (.iload_n 1, 1) := by decide +kernel
theorem dX4_waysOf_19 : decode cX4_waysOf 19 = .ok (.aaload, 1) := by decide +kernel
theorem dX4_waysOf_20 : decode cX4_waysOf 20 = .ok (.iload 4, 2) := by decide +kernel
theorem dX4_waysOf_22 : decode cX4_waysOf 22 = .ok (.laload, 1) := by decide +kernel
theorem dX4_waysOf_23 : decode cX4_waysOf 23 = .ok (.ladd, 1) := by decide +kernel
theorem dX4_waysOf_24 : decode cX4_waysOf 24 = .ok (.lstore_n 2, 1) := by decide +kernel
theorem dX4_waysOf_25 : decode cX4_waysOf 25 = .ok (.iinc 4 1, 3) := by decide +kernel
theorem dX4_waysOf_28 : decode cX4_waysOf 28 = .ok (.goto (-23), 3) := by decide +kernel
theorem dX4_waysOf_31 : decode cX4_waysOf 31 = .ok (.lload_n 2, 1) := by decide +kernel
theorem dX4_waysOf_32 : decode cX4_waysOf 32 = .ok (.lreturn, 1) := by decide +kernel
theorem dX4_aboard_0 : decode cX4_aboard 0 = .ok (.iconst 0, 1) := by decide +kernel
theorem dX4_aboard_1 : decode cX4_aboard 1 = .ok (.istore 4, 2) := by decide +kernel
theorem dX4_aboard_3 : decode cX4_aboard 3 = .ok (.iload_n 2, 1) := by decide +kernel
theorem dX4_aboard_4 : decode cX4_aboard 4 = .ok (.istore 5, 2) := by decide +kernel
theorem dX4_aboard_6 : decode cX4_aboard 6 = .ok (.iload 5, 2) := by decide +kernel
theorem dX4_aboard_8 : decode cX4_aboard 8 = .ok (.iload_n 3, 1) := by decide +kernel
theorem dX4_aboard_9 : decode cX4_aboard 9 = .ok (.if_icmp .lt 18, 3) := by decide +kernel
theorem dX4_aboard_12 : decode cX4_aboard 12 = .ok (.aload_n 0, 1) := by decide +kernel
theorem dX4_aboard_13 : decode cX4_aboard 13 = .ok (.aload_n 1, 1) := by decide +kernel
theorem dX4_aboard_14 : decode cX4_aboard 14 = .ok (.iload 5, 2) := by decide +kernel
theorem dX4_aboard_16 : decode cX4_aboard 16 = .ok (.invokevirtual 70, 3) := by decide +kernel
theorem dX4_aboard_19 : decode cX4_aboard 19 = .ok (.istore 4, 2) := by decide +kernel
theorem dX4_aboard_21 : decode cX4_aboard 21 = .ok (.iinc 5 (-1), 3) := by decide +kernel
theorem dX4_aboard_24 : decode cX4_aboard 24 = .ok (.goto (-18), 3) := by decide +kernel
theorem dX4_aboard_27 : decode cX4_aboard 27 = .ok (.iload 4, 2) := by decide +kernel
theorem dX4_aboard_29 : decode cX4_aboard 29 = .ok (.ireturn, 1) := by decide +kernel
theorem dX4_keepThoseThatGoOn_0 : decode cX4_keepThoseThatGoOn 0 = .ok (.iconst 0, 1) := by decide +kernel
theorem dX4_keepThoseThatGoOn_1 : decode cX4_keepThoseThatGoOn 1 = .ok (.istore_n 3, 1) := by decide +kernel
theorem dX4_keepThoseThatGoOn_2 : decode cX4_keepThoseThatGoOn 2 = .ok (.iconst 0, 1) := by decide +kernel
theorem dX4_keepThoseThatGoOn_3 : decode cX4_keepThoseThatGoOn 3 = .ok (.istore 4, 2) := by decide +kernel
theorem dX4_keepThoseThatGoOn_5 : decode cX4_keepThoseThatGoOn 5 = .ok (.iload 4, 2) := by decide +kernel
theorem dX4_keepThoseThatGoOn_7 : decode cX4_keepThoseThatGoOn 7 = .ok (.sipush 256, 3) := by decide +kernel
theorem dX4_keepThoseThatGoOn_10 : decode cX4_keepThoseThatGoOn 10 = .ok (.if_icmp .ge 60, 3) := by decide +kernel
theorem dX4_keepThoseThatGoOn_13 : decode cX4_keepThoseThatGoOn 13 = .ok (.aload_n 0, 1) := by decide +kernel
theorem dX4_keepThoseThatGoOn_14 : decode cX4_keepThoseThatGoOn 14 = .ok (.getfield 29, 3) := by decide +kernel
theorem dX4_keepThoseThatGoOn_17 : decode cX4_keepThoseThatGoOn 17 = .ok (.iload_n 2, 1) := by decide +kernel
theorem dX4_keepThoseThatGoOn_18 : decode cX4_keepThoseThatGoOn 18 = .ok (.iconst 1, 1) := by decide +kernel
theorem dX4_keepThoseThatGoOn_19 : decode cX4_keepThoseThatGoOn 19 = .ok (.isub, 1) := by decide +kernel
theorem dX4_keepThoseThatGoOn_20 : decode cX4_keepThoseThatGoOn 20 = .ok (.aaload, 1) := by decide +kernel
theorem dX4_keepThoseThatGoOn_21 : decode cX4_keepThoseThatGoOn 21 = .ok (.iload 4, 2) := by decide +kernel
theorem dX4_keepThoseThatGoOn_23 : decode cX4_keepThoseThatGoOn 23 = .ok (.laload, 1) := by decide +kernel
theorem dX4_keepThoseThatGoOn_24 : decode cX4_keepThoseThatGoOn 24 = .ok (.lconst 0, 1) := by decide +kernel
theorem dX4_keepThoseThatGoOn_25 : decode cX4_keepThoseThatGoOn 25 = .ok (.lcmp, 1) := by decide +kernel
theorem dX4_keepThoseThatGoOn_26 : decode cX4_keepThoseThatGoOn 26 = .ok (.ifCond .eq 38, 3) := by decide +kernel
theorem dX4_keepThoseThatGoOn_29 : decode cX4_keepThoseThatGoOn 29 = .ok (.aload_n 0, 1) := by decide +kernel
theorem dX4_keepThoseThatGoOn_30 : decode cX4_keepThoseThatGoOn 30 = .ok (.aload_n 1, 1) := by decide +kernel
theorem dX4_keepThoseThatGoOn_31 : decode cX4_keepThoseThatGoOn 31 = .ok (.iload 4, 2) := by decide +kernel
theorem dX4_keepThoseThatGoOn_33 : decode cX4_keepThoseThatGoOn 33 = .ok (.iload_n 2, 1) := by decide +kernel
theorem dX4_keepThoseThatGoOn_34 : decode cX4_keepThoseThatGoOn 34 = .ok (.invokevirtual 74, 3) := by decide +kernel
theorem dX4_keepThoseThatGoOn_37 : decode cX4_keepThoseThatGoOn 37 = .ok (.istore 5, 2) := by decide +kernel
theorem dX4_keepThoseThatGoOn_39 : decode cX4_keepThoseThatGoOn 39 = .ok (.iload 5, 2) := by decide +kernel
theorem dX4_keepThoseThatGoOn_41 : decode cX4_keepThoseThatGoOn 41 = .ok (.ifCond .ge 18, 3) := by decide +kernel
theorem dX4_keepThoseThatGoOn_44 : decode cX4_keepThoseThatGoOn 44 = .ok (.aload_n 0, 1) := by decide +kernel
theorem dX4_keepThoseThatGoOn_45 : decode cX4_keepThoseThatGoOn 45 = .ok (.getfield 29, 3) := by decide +kernel
theorem dX4_keepThoseThatGoOn_48 : decode cX4_keepThoseThatGoOn 48 = .ok (.iload_n 2, 1) := by decide +kernel
theorem dX4_keepThoseThatGoOn_49 : decode cX4_keepThoseThatGoOn 49 = .ok (.iconst 1, 1) := by decide +kernel
theorem dX4_keepThoseThatGoOn_50 : decode cX4_keepThoseThatGoOn 50 = .ok (.isub, 1) := by decide +kernel
theorem dX4_keepThoseThatGoOn_51 : decode cX4_keepThoseThatGoOn 51 = .ok (.aaload, 1) := by decide +kernel
theorem dX4_keepThoseThatGoOn_52 : decode cX4_keepThoseThatGoOn 52 = .ok (.iload 4, 2) := by decide +kernel
theorem dX4_keepThoseThatGoOn_54 : decode cX4_keepThoseThatGoOn 54 = .ok (.lconst 0, 1) := by decide +kernel
theorem dX4_keepThoseThatGoOn_55 : decode cX4_keepThoseThatGoOn 55 = .ok (.lastore, 1) := by decide +kernel
theorem dX4_keepThoseThatGoOn_56 : decode cX4_keepThoseThatGoOn 56 = .ok (.goto 8, 3) := by decide +kernel
theorem dX4_keepThoseThatGoOn_59 : decode cX4_keepThoseThatGoOn 59 = .ok (.iload_n 3, 1) := by decide +kernel
theorem dX4_keepThoseThatGoOn_60 : decode cX4_keepThoseThatGoOn 60 = .ok (.iload 5, 2) := by decide +kernel
theorem dX4_keepThoseThatGoOn_62 : decode cX4_keepThoseThatGoOn 62 = .ok (.ior, 1) := by decide +kernel
theorem dX4_keepThoseThatGoOn_63 : decode cX4_keepThoseThatGoOn 63 = .ok (.istore_n 3, 1) := by decide +kernel
theorem dX4_keepThoseThatGoOn_64 : decode cX4_keepThoseThatGoOn 64 = .ok (.iinc 4 1, 3) := by decide +kernel
theorem dX4_keepThoseThatGoOn_67 : decode cX4_keepThoseThatGoOn 67 = .ok (.goto (-62), 3) := by decide +kernel
theorem dX4_keepThoseThatGoOn_70 : decode cX4_keepThoseThatGoOn 70 = .ok (.iload_n 3, 1) := by decide +kernel
theorem dX4_keepThoseThatGoOn_71 : decode cX4_keepThoseThatGoOn 71 = .ok (.ireturn, 1) := by decide +kernel
theorem dX4_crossedFrom_0 : decode cX4_crossedFrom 0 = .ok (.aload_n 1, 1) := by decide +kernel
theorem dX4_crossedFrom_1 : decode cX4_crossedFrom 1 = .ok (.iload_n 2, 1) := by decide +kernel
theorem dX4_crossedFrom_2 : decode cX4_crossedFrom 2 = .ok (.invokevirtual 49, 3) := by decide +kernel
theorem dX4_crossedFrom_5 : decode cX4_crossedFrom 5 = .ok (.istore 4, 2) := by decide +kernel
theorem dX4_crossedFrom_7 : decode cX4_crossedFrom 7 = .ok (.iload 4, 2) := by decide +kernel
theorem dX4_crossedFrom_9 : decode cX4_crossedFrom 9 = .ok (.invokestatic 53, 3) := by decide +kernel
theorem dX4_crossedFrom_12 : decode cX4_crossedFrom 12 = .ok (.istore 5, 2) := by decide +kernel
theorem dX4_crossedFrom_14 : decode cX4_crossedFrom 14 = .ok (.iconst (-1), 1) := by decide +kernel
theorem dX4_crossedFrom_15 : decode cX4_crossedFrom 15 = .ok (.istore 6, 2) := by decide +kernel
theorem dX4_crossedFrom_17 : decode cX4_crossedFrom 17 = .ok (.iconst 0, 1) := by decide +kernel
theorem dX4_crossedFrom_18 : decode cX4_crossedFrom 18 = .ok (.istore 7, 2) := by decide +kernel
theorem dX4_crossedFrom_20 : decode cX4_crossedFrom 20 = .ok (.iconst 0, 1) := by decide +kernel
theorem dX4_crossedFrom_21 : decode cX4_crossedFrom 21 = .ok (.istore 8, 2) := by decide +kernel
theorem dX4_crossedFrom_23 : decode cX4_crossedFrom 23 = .ok (.iload 8, 2) := by decide +kernel
theorem dX4_crossedFrom_25 : decode cX4_crossedFrom 25 = .ok (.iload 5, 2) := by decide +kernel
theorem dX4_crossedFrom_27 : decode cX4_crossedFrom 27 = .ok (.if_icmp .ge 65, 3) := by decide +kernel
theorem dX4_crossedFrom_30 : decode cX4_crossedFrom 30 = .ok (.aload_n 1, 1) := by decide +kernel
theorem dX4_crossedFrom_31 : decode cX4_crossedFrom 31 = .ok (.iload_n 2, 1) := by decide +kernel
theorem dX4_crossedFrom_32 : decode cX4_crossedFrom 32 = .ok (.iload 7, 2) := by decide +kernel
theorem dX4_crossedFrom_34 : decode cX4_crossedFrom 34 = .ok (.aload_n 1, 1) := by decide +kernel
theorem dX4_crossedFrom_35 : decode cX4_crossedFrom 35 = .ok (.getfield 56, 3) := by decide +kernel
theorem dX4_crossedFrom_38 : decode cX4_crossedFrom 38 = .ok (.aload_n 1, 1) := by decide +kernel
theorem dX4_crossedFrom_39 : decode cX4_crossedFrom 39 = .ok (.getfield 59, 3) := by decide +kernel
theorem dX4_crossedFrom_42 : decode cX4_crossedFrom 42 = .ok (.invokevirtual 62, 3) := by decide +kernel
theorem dX4_crossedFrom_45 : decode cX4_crossedFrom 45 = .ok (.istore 9, 2) := by decide +kernel
theorem dX4_crossedFrom_47 : decode cX4_crossedFrom 47 = .ok (.iload 9, 2) := by decide +kernel
theorem dX4_crossedFrom_49 : decode cX4_crossedFrom 49 = .ok (.ifCond .lt 28, 3) := by decide +kernel
theorem dX4_crossedFrom_52 : decode cX4_crossedFrom 52 = .ok (.aload_n 0, 1) := by decide +kernel
theorem dX4_crossedFrom_53 : decode cX4_crossedFrom 53 = .ok (.getfield 29, 3) := by decide +kernel
theorem dX4_crossedFrom_56 : decode cX4_crossedFrom 56 = .ok (.iload_n 3, 1) := by decide +kernel
theorem dX4_crossedFrom_57 : decode cX4_crossedFrom 57 = .ok (.aaload, 1) := by decide +kernel
theorem dX4_crossedFrom_58 : decode cX4_crossedFrom 58 = .ok (.iload 9, 2) := by decide +kernel
theorem dX4_crossedFrom_60 : decode cX4_crossedFrom 60 = .ok (.laload, 1) := by decide +kernel
theorem dX4_crossedFrom_61 : decode cX4_crossedFrom 61 = .ok (.lconst 0, 1) := by decide +kernel
theorem dX4_crossedFrom_62 : decode cX4_crossedFrom 62 = .ok (.lcmp, 1) := by decide +kernel
theorem dX4_crossedFrom_63 : decode cX4_crossedFrom 63 = .ok (.ifCond .eq 14, 3) := by decide +kernel
theorem dX4_crossedFrom_66 : decode cX4_crossedFrom 66 = .ok (.iload 6, 2) := by decide +kernel
theorem dX4_crossedFrom_68 : decode cX4_crossedFrom 68 = .ok (.iconst 0, 1) := by decide +kernel
theorem dX4_crossedFrom_69 : decode cX4_crossedFrom 69 = .ok (.invokestatic 78, 3) := by decide +kernel
theorem dX4_crossedFrom_72 : decode cX4_crossedFrom 72 = .ok (.iload 7, 2) := by decide +kernel
theorem dX4_crossedFrom_74 : decode cX4_crossedFrom 74 = .ok (.ior, 1) := by decide +kernel
theorem dX4_crossedFrom_75 : decode cX4_crossedFrom 75 = .ok (.istore 6, 2) := by decide +kernel
theorem dX4_crossedFrom_77 : decode cX4_crossedFrom 77 = .ok (.iload 7, 2) := by decide +kernel
theorem dX4_crossedFrom_79 : decode cX4_crossedFrom 79 = .ok (.iload 4, 2) := by decide +kernel
theorem dX4_crossedFrom_81 : decode cX4_crossedFrom 81 = .ok (.invokestatic 66, 3) := by decide +kernel
theorem dX4_crossedFrom_84 : decode cX4_crossedFrom 84 = .ok (.istore 7, 2) := by decide +kernel
theorem dX4_crossedFrom_86 : decode cX4_crossedFrom 86 = .ok (.iinc 8 1, 3) := by decide +kernel
theorem dX4_crossedFrom_89 : decode cX4_crossedFrom 89 = .ok (.goto (-66), 3) := by decide +kernel
theorem dX4_crossedFrom_92 : decode cX4_crossedFrom 92 = .ok (.iload 6, 2) := by decide +kernel
theorem dX4_crossedFrom_94 : decode cX4_crossedFrom 94 = .ok (.ireturn, 1) := by decide +kernel
theorem dX5_init_0 : decode cX5_init 0 = .ok (.aload_n 0, 1) := by decide +kernel
theorem dX5_init_1 : decode cX5_init 1 = .ok (.invokespecial 1, 3) := by decide +kernel
theorem dX5_init_4 : decode cX5_init 4 = .ok (.aload_n 0, 1) := by decide +kernel
theorem dX5_init_5 : decode cX5_init 5 = .ok (.sipush 200, 3) := by decide +kernel
theorem dX5_init_8 : decode cX5_init 8 = .ok (.newarray .int, 2) := by decide +kernel
theorem dX5_init_10 : decode cX5_init 10 = .ok (.putfield 9, 3) := by decide +kernel
theorem dX5_init_13 : decode cX5_init 13 = .ok (.aload_n 0, 1) := by decide +kernel
theorem dX5_init_14 : decode cX5_init 14 = .ok (.iconst 0, 1) := by decide +kernel
theorem dX5_init_15 : decode cX5_init 15 = .ok (.putfield 13, 3) := by decide +kernel
theorem dX5_init_18 : decode cX5_init 18 = .ok (.aload_n 0, 1) := by decide +kernel
theorem dX5_init_19 : decode cX5_init 19 = .ok (.new 17, 3) := by decide +kernel
theorem dX5_init_22 : decode cX5_init 22 = .ok (.dup, 1) := by decide +kernel
theorem dX5_init_23 : decode cX5_init 23 = .ok (.invokespecial 19, 3) := by decide +kernel
theorem dX5_init_26 : decode cX5_init 26 = .ok (.putfield 20, 3) := by decide +kernel
theorem dX5_init_29 : decode cX5_init 29 = .ok (.aload_n 0, 1) := by decide +kernel
theorem dX5_init_30 : decode cX5_init 30 = .ok (.new 24, 3) := by decide +kernel
theorem dX5_init_33 : decode cX5_init 33 = .ok (.dup, 1) := by decide +kernel
theorem dX5_init_34 : decode cX5_init 34 = .ok (.invokespecial 26, 3) := by decide +kernel
theorem dX5_init_37 : decode cX5_init 37 = .ok (.putfield 27, 3) := by decide +kernel
theorem dX5_init_40 : decode cX5_init 40 = .ok (.aload_n 0, 1) := by decide +kernel
theorem dX5_init_41 : decode cX5_init 41 = .ok (.new 24, 3) := by decide +kernel
theorem dX5_init_44 : decode cX5_init 44 = .ok (.dup, 1) := by decide +kernel
theorem dX5_init_45 : decode cX5_init 45 = .ok (.invokespecial 26, 3) := by decide +kernel
theorem dX5_init_48 : decode cX5_init 48 = .ok (.putfield 31, 3) := by decide +kernel
theorem dX5_init_51 : decode cX5_init 51 = .ok (.aload_n 0, 1) := by decide +kernel
theorem dX5_init_52 : decode cX5_init 52 = .ok (.new 34, 3) := by decide +kernel
theorem dX5_init_55 : decode cX5_init 55 = .ok (.dup, 1) := by decide +kernel
theorem dX5_init_56 : decode cX5_init 56 = .ok (.invokespecial 36, 3) := by decide +kernel
theorem dX5_init_59 : decode cX5_init 59 = .ok (.putfield 37, 3) := by decide +kernel
theorem dX5_init_62 : decode cX5_init 62 = .ok (.aload_n 0, 1) := by decide +kernel
theorem dX5_init_63 : decode cX5_init 63 = .ok (.iconst 2, 1) := by decide +kernel
theorem dX5_init_64 : decode cX5_init 64 = .ok (.anewarray 34, 3) := by decide +kernel
theorem dX5_init_67 : decode cX5_init 67 = .ok (.putfield 41, 3) := by decide +kernel
theorem dX5_init_70 : decode cX5_init 70 = .ok (.aload_n 0, 1) := by decide +kernel
theorem dX5_init_71 : decode cX5_init 71 = .ok (.iconst 2, 1) := by decide +kernel
theorem dX5_init_72 : decode cX5_init 72 = .ok (.newarray .boolean, 2) := by decide +kernel
theorem dX5_init_74 : decode cX5_init 74 = .ok (.putfield 45, 3) := by decide +kernel
theorem dX5_init_77 : decode cX5_init 77 = .ok (.aload_n 0, 1) := by decide +kernel
theorem dX5_init_78 : decode cX5_init 78 = .ok (.new 49, 3) := by decide +kernel
theorem dX5_init_81 : decode cX5_init 81 = .ok (.dup, 1) := by decide +kernel
theorem dX5_init_82 : decode cX5_init 82 = .ok (.invokespecial 51, 3) := by decide +kernel
theorem dX5_init_85 : decode cX5_init 85 = .ok (.putfield 52, 3) := by decide +kernel
theorem dX5_init_88 : decode cX5_init 88 = .ok (.aload_n 0, 1) := by decide +kernel
theorem dX5_init_89 : decode cX5_init 89 = .ok (.new 56, 3) := by decide +kernel
theorem dX5_init_92 : decode cX5_init 92 = .ok (.dup, 1) := by decide +kernel
theorem dX5_init_93 : decode cX5_init 93 = .ok (.invokespecial 58, 3) := by decide +kernel
theorem dX5_init_96 : decode cX5_init 96 = .ok (.putfield 59, 3) := by decide +kernel
theorem dX5_init_99 : decode cX5_init 99 = .ok (.aload_n 0, 1) := by decide +kernel
theorem dX5_init_100 : decode cX5_init 100 = .ok (.lconst 0, 1) := by decide +kernel
theorem dX5_init_101 : decode cX5_init 101 = .ok (.putfield 63, 3) := by decide +kernel
theorem dX5_init_104 : decode cX5_init 104 = .ok (.iconst 0, 1) := by decide +kernel
theorem dX5_init_105 : decode cX5_init 105 = .ok (.istore_n 1, 1) := by decide +kernel
theorem dX5_init_106 : decode cX5_init 106 = .ok (.iload_n 1, 1) := by decide +kernel
theorem dX5_init_107 : decode cX5_init 107 = .ok (.iconst 2, 1) := by decide +kernel
theorem dX5_init_108 : decode cX5_init 108 = .ok (.if_icmp .ge 22, 3) := by decide +kernel
theorem dX5_init_111 : decode cX5_init 111 = .ok (.aload_n 0, 1) := by decide +kernel
theorem dX5_init_112 : decode cX5_init 112 = .ok (.getfield 41, 3) := by decide +kernel
theorem dX5_init_115 : decode cX5_init 115 = .ok (.iload_n 1, 1) := by decide +kernel
theorem dX5_init_116 : decode cX5_init 116 = .ok (.new 34, 3) := by decide +kernel
theorem dX5_init_119 : decode cX5_init 119 = .ok (.dup, 1) := by decide +kernel
theorem dX5_init_120 : decode cX5_init 120 = .ok (.invokespecial 36, 3) := by decide +kernel
theorem dX5_init_123 : decode cX5_init 123 = .ok (.aastore, 1) := by decide +kernel
theorem dX5_init_124 : decode cX5_init 124 = .ok (.iinc 1 1, 3) := by decide +kernel
theorem dX5_init_127 : decode cX5_init 127 = .ok (.goto (-21), 3) := by decide +kernel
theorem dX5_init_130 : decode cX5_init 130 = .ok (.aload_n 0, 1) := by decide +kernel
theorem dX5_init_131 : decode cX5_init 131 = .ok (.getfield 37, 3) := by decide +kernel
theorem dX5_init_134 : decode cX5_init 134 = .ok (.aload_n 0, 1) := by decide +kernel
theorem dX5_init_135 : decode cX5_init 135 = .ok (.getfield 27, 3) := by decide +kernel
theorem dX5_init_138 : decode cX5_init 138 = .ok (.invokevirtual 67, 3) := by decide +kernel
theorem dX5_init_141 : decode cX5_init 141 = .ok (.return_, 1) := by decide +kernel
theorem dX5_type_0 : decode cX5_type 0 = .ok (.iload_n 3, 1) := by decide +kernel
theorem dX5_type_1 : decode cX5_type 1 = .ok (.iconst 1, 1) := by decide +kernel
theorem dX5_type_2 : decode cX5_type 2 = .ok (.if_icmp .lt 9, 3) := by decide +kernel
theorem dX5_type_5 : decode cX5_type 5 = .ok (.iload_n 3, 1) := by decide +kernel
theorem dX5_type_6 : decode cX5_type 6 = .ok (.bipush 8, 2) := by decide +kernel
theorem dX5_type_8 : decode cX5_type 8 = .ok (.if_icmp .le 5, 3) := by decide +kernel
theorem dX5_type_11 : decode cX5_type 11 = .ok (.iconst (-1), 1) := by decide +kernel
theorem dX5_type_12 : decode cX5_type 12 = .ok (.ireturn, 1) := by decide +kernel
theorem dX5_type_13 : decode cX5_type 13 = .ok (.aload_n 0, 1) := by decide +kernel
theorem dX5_type_14 : decode cX5_type 14 = .ok (.getfield 13, 3) := by decide +kernel
theorem dX5_type_17 : decode cX5_type 17 = .ok (.iload_n 3, 1) := by decide +kernel
theorem dX5_type_18 : decode cX5_type 18 = .ok (.iadd, 1) := by decide +kernel
theorem dX5_type_19 : decode cX5_type 19 = .ok (.sipush 200, 3) := by decide +kernel
theorem dX5_type_22 : decode cX5_type 22 = .ok (.if_icmp .le 6, 3) := by decide +kernel
theorem dX5_type_25 : decode cX5_type 25 = .ok (.bipush (-3), 2) := by decide +kernel
theorem dX5_type_27 : decode cX5_type 27 = .ok (.ireturn, 1) := by decide +kernel
theorem dX5_type_28 : decode cX5_type 28 = .ok (.iload_n 3, 1) := by decide +kernel
theorem dX5_type_29 : decode cX5_type 29 = .ok (.iconst 1, 1) := by decide +kernel
theorem dX5_type_30 : decode cX5_type 30 = .ok (.isub, 1) := by decide +kernel
theorem dX5_type_31 : decode cX5_type 31 = .ok (.istore 4, 2) := by decide +kernel
theorem dX5_type_33 : decode cX5_type 33 = .ok (.iload 4, 2) := by decide +kernel
theorem dX5_type_35 : decode cX5_type 35 = .ok (.ifCond .lt 40, 3) := by decide +kernel
theorem dX5_type_38 : decode cX5_type 38 = .ok (.aload_n 0, 1) := by decide +kernel
theorem dX5_type_39 : decode cX5_type 39 = .ok (.getfield 9, 3) := by decide +kernel
theorem dX5_type_42 : decode cX5_type 42 = .ok (.aload_n 0, 1) := by decide +kernel
theorem dX5_type_43 : decode cX5_type 43 = .ok (.getfield 13, 3) := by decide +kernel
theorem dX5_type_46 : decode cX5_type 46 = .ok (.lload_n 1, 1) := by decide +kernel
theorem dX5_type_47 : decode cX5_type 47 = .ok (.bipush 8, 2) := by decide +kernel
theorem dX5_type_49 : decode cX5_type 49 = .ok (.iload 4, 2) := by decide +kernel
theorem dX5_type_51 : decode cX5_type 51 = .ok (.imul, 1) := by decide +kernel
theorem dX5_type_52 : decode cX5_type 52 = .ok (.lushr, 1) := by decide +kernel
theorem dX5_type_53 : decode cX5_type 53 = .ok (.l2i, 1) := by decide +kernel
theorem dX5_type_54 : decode cX5_type 54 = .ok (.sipush 255, 3) := by decide +kernel
theorem dX5_type_57 : decode cX5_type 57 = .ok (.iand, 1) := by decide +kernel
theorem dX5_type_58 : decode cX5_type 58 = .ok (.iastore, 1) := by decide +kernel
theorem dX5_type_59 : decode cX5_type 59 = .ok (.aload_n 0, 1) := by decide +kernel
theorem dX5_type_60 : decode cX5_type 60 = .ok (.dup, 1) := by decide +kernel
theorem dX5_type_61 : decode cX5_type 61 = .ok (.getfield 13, 3) := by decide +kernel
theorem dX5_type_64 : decode cX5_type 64 = .ok (.iconst 1, 1) := by decide +kernel
theorem dX5_type_65 : decode cX5_type 65 = .ok (.iadd, 1) := by decide +kernel
theorem dX5_type_66 : decode cX5_type 66 = .ok (.putfield 13, 3) := by decide +kernel
theorem dX5_type_69 : decode cX5_type 69 = .ok (.iinc 4 (-1), 3) := by decide +kernel
theorem dX5_type_72 : decode cX5_type 72 = .ok (.goto (-39), 3) := by decide +kernel
theorem dX5_type_75 : decode cX5_type 75 = .ok (.aload_n 0, 1) := by decide +kernel
theorem dX5_type_76 : decode cX5_type 76 = .ok (.getfield 13, 3) := by decide +kernel
theorem dX5_type_79 : decode cX5_type 79 = .ok (.ireturn, 1) := by decide +kernel
theorem dX5_clear_0 : decode cX5_clear 0 = .ok (.aload_n 0, 1) := by decide +kernel
theorem dX5_clear_1 : decode cX5_clear 1 = .ok (.getfield 13, 3) := by decide +kernel
theorem dX5_clear_4 : decode cX5_clear 4 = .ok (.istore_n 1, 1) := by decide +kernel
theorem dX5_clear_5 : decode cX5_clear 5 = .ok (.aload_n 0, 1) := by decide +kernel
theorem dX5_clear_6 : decode cX5_clear 6 = .ok (.iconst 0, 1) := by decide +kernel
theorem dX5_clear_7 : decode cX5_clear 7 = .ok (.putfield 13, 3) := by decide +kernel
theorem dX5_clear_10 : decode cX5_clear 10 = .ok (.iload_n 1, 1) := by decide +kernel
theorem dX5_clear_11 : decode cX5_clear 11 = .ok (.ireturn, 1) := by decide +kernel
theorem dX5_river_0 : decode cX5_river 0 = .ok (.aload_n 0, 1) := by decide +kernel
theorem dX5_river_1 : decode cX5_river 1 = .ok (.getfield 20, 3) := by decide +kernel
theorem dX5_river_4 : decode cX5_river 4 = .ok (.aload_n 0, 1) := by decide +kernel
theorem dX5_river_5 : decode cX5_river 5 = .ok (.getfield 9, 3) := by decide +kernel
theorem dX5_river_8 : decode cX5_river 8 = .ok (.aload_n 0, 1) := by decide +kernel
theorem dX5_river_9 : decode cX5_river 9 = .ok (.getfield 13, 3) := by decide +kernel
theorem dX5_river_12 : decode cX5_river 12 = .ok (.aload_n 0, 1) := by decide +kernel
theorem dX5_river_13 : decode cX5_river 13 = .ok (.getfield 31, 3) := by decide +kernel
theorem dX5_river_16 : decode cX5_river 16 = .ok (.invokevirtual 71, 3) := by decide +kernel
theorem dX5_river_19 : decode cX5_river 19 = .ok (.istore_n 1, 1) := by decide +kernel
theorem dX5_river_20 : decode cX5_river 20 = .ok (.iload_n 1, 1) := by decide +kernel
theorem dX5_river_21 : decode cX5_river 21 = .ok (.ifCond .ge 5, 3) := by decide +kernel
theorem dX5_river_24 : decode cX5_river 24 = .ok (.iload_n 1, 1) := by decide +kernel
theorem dX5_river_25 : decode cX5_river 25 = .ok (.ireturn, 1) := by decide +kernel
theorem dX5_river_26 : decode cX5_river 26 = .ok (.aload_n 0, 1) := by decide +kernel
theorem dX5_river_27 : decode cX5_river 27 = .ok (.getfield 31, 3) := by decide +kernel
theorem dX5_river_30 : decode cX5_river 30 = .ok (.astore_n 2, 1) := by decide +kernel
theorem dX5_river_31 : decode cX5_river 31 = .ok (.aload_n 0, 1) := by decide +kernel
theorem dX5_river_32 : decode cX5_river 32 = .ok (.aload_n 0, 1) := by decide +kernel
theorem dX5_river_33 : decode cX5_river 33 = .ok (.getfield 27, 3) := by decide +kernel
theorem dX5_river_36 : decode cX5_river 36 = .ok (.putfield 31, 3) := by decide +kernel
theorem dX5_river_39 : decode cX5_river 39 = .ok (.aload_n 0, 1) := by decide +kernel
theorem dX5_river_40 : decode cX5_river 40 = .ok (.aload_n 2, 1) := by decide +kernel
theorem dX5_river_41 : decode cX5_river 41 = .ok (.putfield 27, 3) := by decide +kernel
theorem dX5_river_44 : decode cX5_river 44 = .ok (.aload_n 0, 1) := by decide +kernel
theorem dX5_river_45 : decode cX5_river 45 = .ok (.iconst 0, 1) := by decide +kernel
theorem dX5_river_46 : decode cX5_river 46 = .ok (.putfield 13, 3) := by decide +kernel
theorem dX5_river_49 : decode cX5_river 49 = .ok (.aload_n 0, 1) := by decide +kernel
theorem dX5_river_50 : decode cX5_river 50 = .ok (.getfield 37, 3) := by decide +kernel
theorem dX5_river_53 : decode cX5_river 53 = .ok (.aload_n 0, 1) := by decide +kernel
theorem dX5_river_54 : decode cX5_river 54 = .ok (.getfield 27, 3) := by decide +kernel
theorem dX5_river_57 : decode cX5_river 57 = .ok (.invokevirtual 67, 3) := by decide +kernel
theorem dX5_river_60 : decode cX5_river 60 = .ok (.iconst 0, 1) := by decide +kernel
theorem dX5_river_61 : decode cX5_river 61 = .ok (.istore_n 3, 1) := by decide +kernel
theorem dX5_river_62 : decode cX5_river 62 = .ok (.iload_n 3, 1) := by decide +kernel
theorem dX5_river_63 : decode cX5_river 63 = .ok (.iconst 2, 1) := by decide +kernel
theorem dX5_river_64 : decode cX5_river 64 = .ok (.if_icmp .ge 16, 3) := by decide +kernel
theorem dX5_river_67 : decode cX5_river 67 = .ok (.aload_n 0, 1) := by decide +kernel
theorem dX5_river_68 : decode cX5_river 68 = .ok (.getfield 45, 3) := by decide +kernel
theorem dX5_river_71 : decode cX5_river 71 = .ok (.iload_n 3, 1) := by decide +kernel
theorem dX5_river_72 : decode cX5_river 72 = .ok (.iconst 0, 1) := by decide +kernel
theorem dX5_river_73 : decode cX5_river 73 = .ok (.bastore, 1) := by decide +kernel
theorem dX5_river_74 : decode cX5_river 74 = .ok (.iinc 3 1, 3) := by decide +kernel
theorem dX5_river_77 : decode cX5_river 77 = .ok (.goto (-15), 3) := by decide +kernel
theorem dX5_river_80 : decode cX5_river 80 = .ok (.aload_n 0, 1) := by decide +kernel
theorem dX5_river_81 : decode cX5_river 81 = .ok (.getfield 59, 3) := by decide +kernel
theorem dX5_river_84 : decode cX5_river 84 = .ok (.invokevirtual 75, 3) := by decide +kernel
theorem dX5_river_87 : decode cX5_river 87 = .ok (.iload_n 1, 1) := by decide +kernel
theorem dX5_river_88 : decode cX5_river 88 = .ok (.ireturn, 1) := by decide +kernel
theorem dX5_thing_0 : decode cX5_thing 0 = .ok (.aload_n 0, 1) := by decide +kernel
theorem dX5_thing_1 : decode cX5_thing 1 = .ok (.getfield 27, 3) := by decide +kernel
theorem dX5_thing_4 : decode cX5_thing 4 = .ok (.iload_n 1, 1) := by decide +kernel
theorem dX5_thing_5 : decode cX5_thing 5 = .ok (.invokevirtual 78, 3) := by decide +kernel
theorem dX5_thing_8 : decode cX5_thing 8 = .ok (.ifCond .ne 5, 3) := by decide +kernel
theorem dX5_thing_11 : decode cX5_thing 11 = .ok (.iconst (-1), 1) := by decide +kernel
theorem dX5_thing_12 : decode cX5_thing 12 = .ok (.ireturn, 1) := by decide +kernel
theorem dX5_thing_13 : decode cX5_thing 13 = .ok (.iload_n 2, 1) := by decide +kernel
theorem dX5_thing_14 : decode cX5_thing 14 = .ok (.tableswitch 83 0 4 #[34, 43, 53, 63, 73], 34) := by decide +kernel
theorem dX5_thing_48 : decode cX5_thing 48 = .ok (.aload_n 0, 1) := by decide +kernel
theorem dX5_thing_49 : decode cX5_thing 49 = .ok (.getfield 37, 3) := by decide +kernel
theorem dX5_thing_52 : decode cX5_thing 52 = .ok (.iload_n 1, 1) := by decide +kernel
theorem dX5_thing_53 : decode cX5_thing 53 = .ok (.invokevirtual 82, 3) := by decide +kernel
theorem dX5_thing_56 : decode cX5_thing 56 = .ok (.ireturn, 1) := by decide +kernel
theorem dX5_thing_57 : decode cX5_thing 57 = .ok (.aload_n 0, 1) := by decide +kernel
theorem dX5_thing_58 : decode cX5_thing 58 = .ok (.getfield 27, 3) := by decide +kernel
theorem dX5_thing_61 : decode cX5_thing 61 = .ok (.getfield 86, 3) := by decide +kernel
theorem dX5_thing_64 : decode cX5_thing 64 = .ok (.iload_n 1, 1) := by decide +kernel
theorem dX5_thing_65 : decode cX5_thing 65 = .ok (.iaload, 1) := by decide +kernel
theorem dX5_thing_66 : decode cX5_thing 66 = .ok (.ireturn, 1) := by decide +kernel
theorem dX5_thing_67 : decode cX5_thing 67 = .ok (.aload_n 0, 1) := by decide +kernel
theorem dX5_thing_68 : decode cX5_thing 68 = .ok (.getfield 27, 3) := by decide +kernel
theorem dX5_thing_71 : decode cX5_thing 71 = .ok (.getfield 89, 3) := by decide +kernel
theorem dX5_thing_74 : decode cX5_thing 74 = .ok (.iload_n 1, 1) := by decide +kernel
theorem dX5_thing_75 : decode cX5_thing 75 = .ok (.iaload, 1) := by decide +kernel
theorem dX5_thing_76 : decode cX5_thing 76 = .ok (.ireturn, 1) := by decide +kernel
theorem dX5_thing_77 : decode cX5_thing 77 = .ok (.aload_n 0, 1) := by decide +kernel
theorem dX5_thing_78 : decode cX5_thing 78 = .ok (.getfield 27, 3) := by decide +kernel
theorem dX5_thing_81 : decode cX5_thing 81 = .ok (.getfield 92, 3) := by decide +kernel
theorem dX5_thing_84 : decode cX5_thing 84 = .ok (.iload_n 1, 1) := by decide +kernel
theorem dX5_thing_85 : decode cX5_thing 85 = .ok (.iaload, 1) := by decide +kernel
theorem dX5_thing_86 : decode cX5_thing 86 = .ok (.ireturn, 1) := by decide +kernel
theorem dX5_thing_87 : decode cX5_thing 87 = .ok (.aload_n 0, 1) := by decide +kernel
theorem dX5_thing_88 : decode cX5_thing 88 = .ok (.getfield 27, 3) := by decide +kernel
theorem dX5_thing_91 : decode cX5_thing 91 = .ok (.getfield 95, 3) := by decide +kernel
theorem dX5_thing_94 : decode cX5_thing 94 = .ok (.iload_n 1, 1) := by decide +kernel
theorem dX5_thing_95 : decode cX5_thing 95 = .ok (.iaload, 1) := by decide +kernel
theorem dX5_thing_96 : decode cX5_thing 96 = .ok (.ireturn, 1) := by decide +kernel
theorem dX5_thing_97 : decode cX5_thing 97 = .ok (.iconst (-1), 1) := by decide +kernel
theorem dX5_thing_98 : decode cX5_thing 98 = .ok (.ireturn, 1) := by decide +kernel
theorem dX5_now_0 : decode cX5_now 0 = .ok (.iload_n 1, 1) := by decide +kernel
theorem dX5_now_1 : decode cX5_now 1 = .ok (.tableswitch 131 0 6 #[43, 54, 62, 70, 78, 93, 108], 43) := by decide +kernel
theorem dX5_now_44 : decode cX5_now 44 = .ok (.aload_n 0, 1) := by decide +kernel
theorem dX5_now_45 : decode cX5_now 45 = .ok (.getfield 37, 3) := by decide +kernel
theorem dX5_now_48 : decode cX5_now 48 = .ok (.getfield 98, 3) := by decide +kernel
theorem dX5_now_51 : decode cX5_now 51 = .ok (.invokestatic 101, 3) := by decide +kernel
theorem dX5_now_54 : decode cX5_now 54 = .ok (.ireturn, 1) := by decide +kernel
theorem dX5_now_55 : decode cX5_now 55 = .ok (.aload_n 0, 1) := by decide +kernel
theorem dX5_now_56 : decode cX5_now 56 = .ok (.getfield 27, 3) := by decide +kernel
theorem dX5_now_59 : decode cX5_now 59 = .ok (.getfield 104, 3) := by decide +kernel
theorem dX5_now_62 : decode cX5_now 62 = .ok (.ireturn, 1) := by decide +kernel
theorem dX5_now_63 : decode cX5_now 63 = .ok (.aload_n 0, 1) := by decide +kernel
theorem dX5_now_64 : decode cX5_now 64 = .ok (.getfield 37, 3) := by decide +kernel
theorem dX5_now_67 : decode cX5_now 67 = .ok (.getfield 107, 3) := by decide +kernel
theorem dX5_now_70 : decode cX5_now 70 = .ok (.ireturn, 1) := by decide +kernel
theorem dX5_now_71 : decode cX5_now 71 = .ok (.aload_n 0, 1) := by decide +kernel
theorem dX5_now_72 : decode cX5_now 72 = .ok (.getfield 37, 3) := by decide +kernel
theorem dX5_now_75 : decode cX5_now 75 = .ok (.getfield 110, 3) := by decide +kernel
theorem dX5_now_78 : decode cX5_now 78 = .ok (.ireturn, 1) := by decide +kernel
theorem dX5_now_79 : decode cX5_now 79 = .ok (.aload_n 0, 1) := by decide +kernel
theorem dX5_now_80 : decode cX5_now 80 = .ok (.getfield 27, 3) := by decide +kernel
theorem dX5_now_83 : decode cX5_now 83 = .ok (.aload_n 0, 1) := by decide +kernel
theorem dX5_now_84 : decode cX5_now 84 = .ok (.getfield 37, 3) := by decide +kernel
theorem dX5_now_87 : decode cX5_now 87 = .ok (.getfield 98, 3) := by decide +kernel
theorem dX5_now_90 : decode cX5_now 90 = .ok (.invokevirtual 113, 3) := by decide +kernel
theorem dX5_now_93 : decode cX5_now 93 = .ok (.ireturn, 1) := by decide +kernel
theorem dX5_now_94 : decode cX5_now 94 = .ok (.aload_n 0, 1) := by decide +kernel
theorem dX5_now_95 : decode cX5_now 95 = .ok (.getfield 27, 3) := by decide +kernel
theorem dX5_now_98 : decode cX5_now 98 = .ok (.aload_n 0, 1) := by decide +kernel
theorem dX5_now_99 : decode cX5_now 99 = .ok (.getfield 37, 3) := by decide +kernel
theorem dX5_now_102 : decode cX5_now 102 = .ok (.getfield 98, 3) := by decide +kernel
theorem dX5_now_105 : decode cX5_now 105 = .ok (.invokevirtual 116, 3) := by decide +kernel
theorem dX5_now_108 : decode cX5_now 108 = .ok (.ireturn, 1) := by decide +kernel
theorem dX5_now_109 : decode cX5_now 109 = .ok (.aload_n 0, 1) := by decide +kernel
theorem dX5_now_110 : decode cX5_now 110 = .ok (.getfield 27, 3) := by decide +kernel
theorem dX5_now_113 : decode cX5_now 113 = .ok (.aload_n 0, 1) := by decide +kernel
theorem dX5_now_114 : decode cX5_now 114 = .ok (.getfield 37, 3) := by decide +kernel
theorem dX5_now_117 : decode cX5_now 117 = .ok (.getfield 98, 3) := by decide +kernel
theorem dX5_now_120 : decode cX5_now 120 = .ok (.invokevirtual 119, 3) := by decide +kernel
theorem dX5_now_123 : decode cX5_now 123 = .ok (.ifCond .eq 7, 3) := by decide +kernel
theorem dX5_now_126 : decode cX5_now 126 = .ok (.iconst 1, 1) := by decide +kernel
theorem dX5_now_127 : decode cX5_now 127 = .ok (.goto 4, 3) := by decide +kernel
theorem dX5_now_130 : decode cX5_now 130 = .ok (.iconst 0, 1) := by decide +kernel
theorem dX5_now_131 : decode cX5_now 131 = .ok (.ireturn, 1) := by decide +kernel
theorem dX5_now_132 : decode cX5_now 132 = .ok (.iconst (-1), 1) := by decide +kernel
theorem dX5_now_133 : decode cX5_now 133 = .ok (.ireturn, 1) := by decide +kernel
theorem dX5_cross_0 : decode cX5_cross 0 = .ok (.iload_n 1, 1) := by decide +kernel
theorem dX5_cross_1 : decode cX5_cross 1 = .ok (.aload_n 0, 1) := by decide +kernel
theorem dX5_cross_2 : decode cX5_cross 2 = .ok (.getfield 27, 3) := by decide +kernel
theorem dX5_cross_5 : decode cX5_cross 5 = .ok (.getfield 122, 3) := by decide +kernel
theorem dX5_cross_8 : decode cX5_cross 8 = .ok (.iconst (-1), 1) := by decide +kernel
theorem dX5_cross_9 : decode cX5_cross 9 = .ok (.ixor, 1) := by decide +kernel
theorem dX5_cross_10 : decode cX5_cross 10 = .ok (.iand, 1) := by decide +kernel
theorem dX5_cross_11 : decode cX5_cross 11 = .ok (.ifCond .eq 5, 3) := by decide +kernel
theorem dX5_cross_14 : decode cX5_cross 14 = .ok (.iconst (-1), 1) := by decide +kernel
theorem dX5_cross_15 : decode cX5_cross 15 = .ok (.ireturn, 1) := by decide +kernel
theorem dX5_cross_16 : decode cX5_cross 16 = .ok (.aload_n 0, 1) := by decide +kernel
theorem dX5_cross_17 : decode cX5_cross 17 = .ok (.getfield 27, 3) := by decide +kernel
theorem dX5_cross_20 : decode cX5_cross 20 = .ok (.aload_n 0, 1) := by decide +kernel
theorem dX5_cross_21 : decode cX5_cross 21 = .ok (.getfield 37, 3) := by decide +kernel
theorem dX5_cross_24 : decode cX5_cross 24 = .ok (.getfield 98, 3) := by decide +kernel
theorem dX5_cross_27 : decode cX5_cross 27 = .ok (.iload_n 1, 1) := by decide +kernel
theorem dX5_cross_28 : decode cX5_cross 28 = .ok (.aload_n 0, 1) := by decide +kernel
theorem dX5_cross_29 : decode cX5_cross 29 = .ok (.getfield 27, 3) := by decide +kernel
theorem dX5_cross_32 : decode cX5_cross 32 = .ok (.getfield 104, 3) := by decide +kernel
theorem dX5_cross_35 : decode cX5_cross 35 = .ok (.aload_n 0, 1) := by decide +kernel
theorem dX5_cross_36 : decode cX5_cross 36 = .ok (.getfield 27, 3) := by decide +kernel
theorem dX5_cross_39 : decode cX5_cross 39 = .ok (.getfield 122, 3) := by decide +kernel
theorem dX5_cross_42 : decode cX5_cross 42 = .ok (.invokevirtual 125, 3) := by decide +kernel
theorem dX5_cross_45 : decode cX5_cross 45 = .ok (.istore_n 2, 1) := by decide +kernel
theorem dX5_cross_46 : decode cX5_cross 46 = .ok (.iload_n 2, 1) := by decide +kernel
theorem dX5_cross_47 : decode cX5_cross 47 = .ok (.ifCond .lt 13, 3) := by decide +kernel
theorem dX5_cross_50 : decode cX5_cross 50 = .ok (.aload_n 0, 1) := by decide +kernel
theorem dX5_cross_51 : decode cX5_cross 51 = .ok (.getfield 37, 3) := by decide +kernel
theorem dX5_cross_54 : decode cX5_cross 54 = .ok (.getfield 107, 3) := by decide +kernel
theorem dX5_cross_57 : decode cX5_cross 57 = .ok (.ifCond .gt 6, 3) := by decide +kernel
theorem dX5_cross_60 : decode cX5_cross 60 = .ok (.bipush (-2), 2) := by decide +kernel
theorem dX5_cross_62 : decode cX5_cross 62 = .ok (.ireturn, 1) := by decide +kernel
theorem dX5_cross_63 : decode cX5_cross 63 = .ok (.aload_n 0, 1) := by decide +kernel
theorem dX5_cross_64 : decode cX5_cross 64 = .ok (.getfield 37, 3) := by decide +kernel
theorem dX5_cross_67 : decode cX5_cross 67 = .ok (.invokevirtual 129, 3) := by decide +kernel
theorem dX5_cross_70 : decode cX5_cross 70 = .ok (.aload_n 0, 1) := by decide +kernel
theorem dX5_cross_71 : decode cX5_cross 71 = .ok (.getfield 37, 3) := by decide +kernel
theorem dX5_cross_74 : decode cX5_cross 74 = .ok (.iload_n 2, 1) := by decide +kernel
theorem dX5_cross_75 : decode cX5_cross 75 = .ok (.putfield 98, 3) := by decide +kernel
theorem dX5_cross_78 : decode cX5_cross 78 = .ok (.aload_n 0, 1) := by decide +kernel
theorem dX5_cross_79 : decode cX5_cross 79 = .ok (.getfield 37, 3) := by decide +kernel
theorem dX5_cross_82 : decode cX5_cross 82 = .ok (.dup, 1) := by decide +kernel
theorem dX5_cross_83 : decode cX5_cross 83 = .ok (.getfield 107, 3) := by decide +kernel
theorem dX5_cross_86 : decode cX5_cross 86 = .ok (.iconst 1, 1) := by decide +kernel
theorem dX5_cross_87 : decode cX5_cross 87 = .ok (.isub, 1) := by decide +kernel
theorem dX5_cross_88 : decode cX5_cross 88 = .ok (.putfield 107, 3) := by decide +kernel
theorem dX5_cross_91 : decode cX5_cross 91 = .ok (.aload_n 0, 1) := by decide +kernel
theorem dX5_cross_92 : decode cX5_cross 92 = .ok (.getfield 37, 3) := by decide +kernel
theorem dX5_cross_95 : decode cX5_cross 95 = .ok (.getfield 107, 3) := by decide +kernel
theorem dX5_cross_98 : decode cX5_cross 98 = .ok (.ireturn, 1) := by decide +kernel
theorem dX5_rest_0 : decode cX5_rest 0 = .ok (.aload_n 0, 1) := by decide +kernel
theorem dX5_rest_1 : decode cX5_rest 1 = .ok (.getfield 37, 3) := by decide +kernel
theorem dX5_rest_4 : decode cX5_rest 4 = .ok (.getfield 107, 3) := by decide +kernel
theorem dX5_rest_7 : decode cX5_rest 7 = .ok (.ifCond .gt 6, 3) := by decide +kernel
theorem dX5_rest_10 : decode cX5_rest 10 = .ok (.bipush (-2), 2) := by decide +kernel
theorem dX5_rest_12 : decode cX5_rest 12 = .ok (.ireturn, 1) := by decide +kernel
theorem dX5_rest_13 : decode cX5_rest 13 = .ok (.aload_n 0, 1) := by decide +kernel
theorem dX5_rest_14 : decode cX5_rest 14 = .ok (.getfield 37, 3) := by decide +kernel
theorem dX5_rest_17 : decode cX5_rest 17 = .ok (.invokevirtual 129, 3) := by decide +kernel
theorem dX5_rest_20 : decode cX5_rest 20 = .ok (.aload_n 0, 1) := by decide +kernel
theorem dX5_rest_21 : decode cX5_rest 21 = .ok (.getfield 37, 3) := by decide +kernel
theorem dX5_rest_24 : decode cX5_rest 24 = .ok (.dup, 1) := by decide +kernel
theorem dX5_rest_25 : decode cX5_rest 25 = .ok (.getfield 107, 3) := by decide +kernel
theorem dX5_rest_28 : decode cX5_rest 28 = .ok (.iconst 1, 1) := by decide +kernel
theorem dX5_rest_29 : decode cX5_rest 29 = .ok (.isub, 1) := by decide +kernel
theorem dX5_rest_30 : decode cX5_rest 30 = .ok (.putfield 107, 3) := by decide +kernel
theorem dX5_rest_33 : decode cX5_rest 33 = .ok (.aload_n 0, 1) := by decide +kernel
theorem dX5_rest_34 : decode cX5_rest 34 = .ok (.getfield 37, 3) := by decide +kernel
theorem dX5_rest_37 : decode cX5_rest 37 = .ok (.getfield 107, 3) := by decide +kernel
theorem dX5_rest_40 : decode cX5_rest 40 = .ok (.ireturn, 1) := by decide +kernel
theorem dX5_night_0 : decode cX5_night 0 = .ok (.aload_n 0, 1) := by decide +kernel
theorem dX5_night_1 : decode cX5_night 1 = .ok (.getfield 37, 3) := by decide +kernel
theorem dX5_night_4 : decode cX5_night 4 = .ok (.invokevirtual 132, 3) := by decide +kernel
theorem dX5_night_7 : decode cX5_night 7 = .ok (.aload_n 0, 1) := by decide +kernel
theorem dX5_night_8 : decode cX5_night 8 = .ok (.getfield 27, 3) := by decide +kernel
theorem dX5_night_11 : decode cX5_night 11 = .ok (.getfield 136, 3) := by decide +kernel
theorem dX5_night_14 : decode cX5_night 14 = .ok (.if_icmp .ge 13, 3) := by decide +kernel
theorem dX5_night_17 : decode cX5_night 17 = .ok (.aload_n 0, 1) := by decide +kernel
theorem dX5_night_18 : decode cX5_night 18 = .ok (.getfield 37, 3) := by decide +kernel
theorem dX5_night_21 : decode cX5_night 21 = .ok (.invokevirtual 139, 3) := by decide +kernel
theorem dX5_night_24 : decode cX5_night 24 = .ok (.goto 10, 3) := by decide +kernel
theorem dX5_night_27 : decode cX5_night 27 = .ok (.aload_n 0, 1) := by decide +kernel
theorem dX5_night_28 : decode cX5_night 28 = .ok (.getfield 37, 3) := by decide +kernel
theorem dX5_night_31 : decode cX5_night 31 = .ok (.invokevirtual 142, 3) := by decide +kernel
theorem dX5_night_34 : decode cX5_night 34 = .ok (.aload_n 0, 1) := by decide +kernel
theorem dX5_night_35 : decode cX5_night 35 = .ok (.getfield 37, 3) := by decide +kernel
theorem dX5_night_38 : decode cX5_night 38 = .ok (.getfield 110, 3) := by decide +kernel
theorem dX5_night_41 : decode cX5_night 41 = .ok (.ireturn, 1) := by decide +kernel
theorem dX5_slide_0 : decode cX5_slide 0 = .ok (.aload_n 0, 1) := by decide +kernel
theorem dX5_slide_1 : decode cX5_slide 1 = .ok (.getfield 27, 3) := by decide +kernel
theorem dX5_slide_4 : decode cX5_slide 4 = .ok (.iload_n 1, 1) := by decide +kernel
theorem dX5_slide_5 : decode cX5_slide 5 = .ok (.invokevirtual 78, 3) := by decide +kernel
theorem dX5_slide_8 : decode cX5_slide 8 = .ok (.ifCond .ne 5, 3) := by decide +kernel
theorem dX5_slide_11 : decode cX5_slide 11 = .ok (.iconst (-1), 1) := by decide +kernel
theorem dX5_slide_12 : decode cX5_slide 12 = .ok (.ireturn, 1) := by decide +kernel
theorem dX5_slide_13 : decode cX5_slide 13 = .ok (.aload_n 0, 1) := by decide +kernel
theorem dX5_slide_14 : decode cX5_slide 14 = .ok (.getfield 37, 3) := by decide +kernel
theorem dX5_slide_17 : decode cX5_slide 17 = .ok (.getfield 98, 3) := by decide +kernel
theorem dX5_slide_20 : decode cX5_slide 20 = .ok (.iconst 1, 1) := by decide +kernel
theorem dX5_slide_21 : decode cX5_slide 21 = .ok (.iload_n 1, 1) := by decide +kernel
theorem dX5_slide_22 : decode cX5_slide 22 = .ok (.ishl, 1) := by decide +kernel
theorem dX5_slide_23 : decode cX5_slide 23 = .ok (.ixor, 1) := by decide +kernel
theorem dX5_slide_24 : decode cX5_slide 24 = .ok (.istore_n 2, 1) := by decide +kernel
theorem dX5_slide_25 : decode cX5_slide 25 = .ok (.aload_n 0, 1) := by decide +kernel
theorem dX5_slide_26 : decode cX5_slide 26 = .ok (.getfield 27, 3) := by decide +kernel
theorem dX5_slide_29 : decode cX5_slide 29 = .ok (.getfield 92, 3) := by decide +kernel
theorem dX5_slide_32 : decode cX5_slide 32 = .ok (.iload_n 1, 1) := by decide +kernel
theorem dX5_slide_33 : decode cX5_slide 33 = .ok (.iaload, 1) := by decide +kernel
theorem dX5_slide_34 : decode cX5_slide 34 = .ok (.aload_n 0, 1) := by decide +kernel
theorem dX5_slide_35 : decode cX5_slide 35 = .ok (.getfield 37, 3) := by decide +kernel
theorem dX5_slide_38 : decode cX5_slide 38 = .ok (.getfield 110, 3) := by decide +kernel
theorem dX5_slide_41 : decode cX5_slide 41 = .ok (.if_icmp .gt 14, 3) := by decide +kernel
theorem dX5_slide_44 : decode cX5_slide 44 = .ok (.aload_n 0, 1) := by decide +kernel
theorem dX5_slide_45 : decode cX5_slide 45 = .ok (.getfield 27, 3) := by decide +kernel
theorem dX5_slide_48 : decode cX5_slide 48 = .ok (.iload_n 2, 1) := by decide +kernel
theorem dX5_slide_49 : decode cX5_slide 49 = .ok (.invokevirtual 119, 3) := by decide +kernel
theorem dX5_slide_52 : decode cX5_slide 52 = .ok (.ifCond .ne 6, 3) := by decide +kernel
theorem dX5_slide_55 : decode cX5_slide 55 = .ok (.bipush (-2), 2) := by decide +kernel
theorem dX5_slide_57 : decode cX5_slide 57 = .ok (.ireturn, 1) := by decide +kernel
theorem dX5_slide_58 : decode cX5_slide 58 = .ok (.aload_n 0, 1) := by decide +kernel
theorem dX5_slide_59 : decode cX5_slide 59 = .ok (.getfield 37, 3) := by decide +kernel
theorem dX5_slide_62 : decode cX5_slide 62 = .ok (.invokevirtual 129, 3) := by decide +kernel
theorem dX5_slide_65 : decode cX5_slide 65 = .ok (.aload_n 0, 1) := by decide +kernel
theorem dX5_slide_66 : decode cX5_slide 66 = .ok (.getfield 37, 3) := by decide +kernel
theorem dX5_slide_69 : decode cX5_slide 69 = .ok (.iload_n 2, 1) := by decide +kernel
theorem dX5_slide_70 : decode cX5_slide 70 = .ok (.putfield 98, 3) := by decide +kernel
theorem dX5_slide_73 : decode cX5_slide 73 = .ok (.aload_n 0, 1) := by decide +kernel
theorem dX5_slide_74 : decode cX5_slide 74 = .ok (.getfield 37, 3) := by decide +kernel
theorem dX5_slide_77 : decode cX5_slide 77 = .ok (.iload_n 1, 1) := by decide +kernel
theorem dX5_slide_78 : decode cX5_slide 78 = .ok (.invokevirtual 82, 3) := by decide +kernel
theorem dX5_slide_81 : decode cX5_slide 81 = .ok (.ireturn, 1) := by decide +kernel
theorem dX5_undo_0 : decode cX5_undo 0 = .ok (.aload_n 0, 1) := by decide +kernel
theorem dX5_undo_1 : decode cX5_undo 1 = .ok (.getfield 37, 3) := by decide +kernel
theorem dX5_undo_4 : decode cX5_undo 4 = .ok (.getfield 145, 3) := by decide +kernel
theorem dX5_undo_7 : decode cX5_undo 7 = .ok (.ifCond .gt 6, 3) := by decide +kernel
theorem dX5_undo_10 : decode cX5_undo 10 = .ok (.bipush (-2), 2) := by decide +kernel
theorem dX5_undo_12 : decode cX5_undo 12 = .ok (.ireturn, 1) := by decide +kernel
theorem dX5_undo_13 : decode cX5_undo 13 = .ok (.aload_n 0, 1) := by decide +kernel
theorem dX5_undo_14 : decode cX5_undo 14 = .ok (.getfield 37, 3) := by decide +kernel
theorem dX5_undo_17 : decode cX5_undo 17 = .ok (.invokevirtual 148, 3) := by decide +kernel
theorem dX5_undo_20 : decode cX5_undo 20 = .ok (.aload_n 0, 1) := by decide +kernel
theorem dX5_undo_21 : decode cX5_undo 21 = .ok (.getfield 37, 3) := by decide +kernel
theorem dX5_undo_24 : decode cX5_undo 24 = .ok (.getfield 145, 3) := by decide +kernel
theorem dX5_undo_27 : decode cX5_undo 27 = .ok (.ireturn, 1) := by decide +kernel
theorem dX5_lot_0 : decode cX5_lot 0 = .ok (.aload_n 0, 1) := by decide +kernel
theorem dX5_lot_1 : decode cX5_lot 1 = .ok (.getfield 37, 3) := by decide +kernel
theorem dX5_lot_4 : decode cX5_lot 4 = .ok (.getfield 151, 3) := by decide +kernel
theorem dX5_lot_7 : decode cX5_lot 7 = .ok (.istore_n 2, 1) := by decide +kernel
theorem dX5_lot_8 : decode cX5_lot 8 = .ok (.aload_n 0, 1) := by decide +kernel
theorem dX5_lot_9 : decode cX5_lot 9 = .ok (.getfield 37, 3) := by decide +kernel
theorem dX5_lot_12 : decode cX5_lot 12 = .ok (.iload_n 1, 1) := by decide +kernel
theorem dX5_lot_13 : decode cX5_lot 13 = .ok (.putfield 151, 3) := by decide +kernel
theorem dX5_lot_16 : decode cX5_lot 16 = .ok (.iload_n 2, 1) := by decide +kernel
theorem dX5_lot_17 : decode cX5_lot 17 = .ok (.ireturn, 1) := by decide +kernel
theorem dX5_done_0 : decode cX5_done 0 = .ok (.iload_n 1, 1) := by decide +kernel
theorem dX5_done_1 : decode cX5_done 1 = .ok (.iconst (-1), 1) := by decide +kernel
theorem dX5_done_2 : decode cX5_done 2 = .ok (.if_icmp .ge 5, 3) := by decide +kernel
theorem dX5_done_5 : decode cX5_done 5 = .ok (.iconst (-1), 1) := by decide +kernel
theorem dX5_done_6 : decode cX5_done 6 = .ok (.ireturn, 1) := by decide +kernel
theorem dX5_done_7 : decode cX5_done 7 = .ok (.aload_n 0, 1) := by decide +kernel
theorem dX5_done_8 : decode cX5_done 8 = .ok (.getfield 52, 3) := by decide +kernel
theorem dX5_done_11 : decode cX5_done 11 = .ok (.aload_n 0, 1) := by decide +kernel
theorem dX5_done_12 : decode cX5_done 12 = .ok (.getfield 27, 3) := by decide +kernel
theorem dX5_done_15 : decode cX5_done 15 = .ok (.aload_n 0, 1) := by decide +kernel
theorem dX5_done_16 : decode cX5_done 16 = .ok (.getfield 37, 3) := by decide +kernel
theorem dX5_done_19 : decode cX5_done 19 = .ok (.getfield 98, 3) := by decide +kernel
theorem dX5_done_22 : decode cX5_done 22 = .ok (.aload_n 0, 1) := by decide +kernel
theorem dX5_done_23 : decode cX5_done 23 = .ok (.getfield 27, 3) := by decide +kernel
theorem dX5_done_26 : decode cX5_done 26 = .ok (.getfield 104, 3) := by decide +kernel
theorem dX5_done_29 : decode cX5_done 29 = .ok (.aload_n 0, 1) := by decide +kernel
theorem dX5_done_30 : decode cX5_done 30 = .ok (.getfield 27, 3) := by decide +kernel
theorem dX5_done_33 : decode cX5_done 33 = .ok (.getfield 122, 3) := by decide +kernel
theorem dX5_done_36 : decode cX5_done 36 = .ok (.invokevirtual 154, 3) := by decide +kernel
theorem dX5_done_39 : decode cX5_done 39 = .ok (.aload_n 0, 1) := by decide +kernel
theorem dX5_done_40 : decode cX5_done 40 = .ok (.getfield 52, 3) := by decide +kernel
theorem dX5_done_43 : decode cX5_done 43 = .ok (.aload_n 0, 1) := by decide +kernel
theorem dX5_done_44 : decode cX5_done 44 = .ok (.getfield 27, 3) := by decide +kernel
theorem dX5_done_47 : decode cX5_done 47 = .ok (.aload_n 0, 1) := by decide +kernel
theorem dX5_done_48 : decode cX5_done 48 = .ok (.getfield 27, 3) := by decide +kernel
theorem dX5_done_51 : decode cX5_done 51 = .ok (.getfield 122, 3) := by decide +kernel
theorem dX5_done_54 : decode cX5_done 54 = .ok (.invokevirtual 158, 3) := by decide +kernel
theorem dX5_done_57 : decode cX5_done 57 = .ok (.istore_n 2, 1) := by decide +kernel
theorem dX5_done_58 : decode cX5_done 58 = .ok (.iload_n 2, 1) := by decide +kernel
theorem dX5_done_59 : decode cX5_done 59 = .ok (.ifCond .ge 6, 3) := by decide +kernel
theorem dX5_done_62 : decode cX5_done 62 = .ok (.bipush (-9), 2) := by decide +kernel
theorem dX5_done_64 : decode cX5_done 64 = .ok (.ireturn, 1) := by decide +kernel
theorem dX5_done_65 : decode cX5_done 65 = .ok (.iload_n 1, 1) := by decide +kernel
theorem dX5_done_66 : decode cX5_done 66 = .ok (.ifCond .ge 14, 3) := by decide +kernel
theorem dX5_done_69 : decode cX5_done 69 = .ok (.aload_n 0, 1) := by decide +kernel
theorem dX5_done_70 : decode cX5_done 70 = .ok (.getfield 52, 3) := by decide +kernel
theorem dX5_done_73 : decode cX5_done 73 = .ok (.iload_n 2, 1) := by decide +kernel
theorem dX5_done_74 : decode cX5_done 74 = .ok (.invokevirtual 162, 3) := by decide +kernel
theorem dX5_done_77 : decode cX5_done 77 = .ok (.goto 12, 3) := by decide +kernel
theorem dX5_done_80 : decode cX5_done 80 = .ok (.aload_n 0, 1) := by decide +kernel
theorem dX5_done_81 : decode cX5_done 81 = .ok (.getfield 52, 3) := by decide +kernel
theorem dX5_done_84 : decode cX5_done 84 = .ok (.iload_n 2, 1) := by decide +kernel
theorem dX5_done_85 : decode cX5_done 85 = .ok (.iload_n 1, 1) := by decide +kernel
theorem dX5_done_86 : decode cX5_done 86 = .ok (.invokevirtual 165, 3) := by decide +kernel
theorem dX5_done_89 : decode cX5_done 89 = .ok (.ireturn, 1) := by decide +kernel
theorem dX5_rent_0 : decode cX5_rent 0 = .ok (.iload_n 1, 1) := by decide +kernel
theorem dX5_rent_1 : decode cX5_rent 1 = .ok (.ifCond .lt 14, 3) := by decide +kernel
theorem dX5_rent_4 : decode cX5_rent 4 = .ok (.iload_n 1, 1) := by decide +kernel
theorem dX5_rent_5 : decode cX5_rent 5 = .ok (.bipush 20, 2) := by decide +kernel
theorem dX5_rent_7 : decode cX5_rent 7 = .ok (.if_icmp .gt 8, 3) := by decide +kernel
theorem dX5_rent_10 : decode cX5_rent 10 = .ok (.iload_n 2, 1) := by decide +kernel
theorem dX5_rent_11 : decode cX5_rent 11 = .ok (.iconst (-1), 1) := by decide +kernel
theorem dX5_rent_12 : decode cX5_rent 12 = .ok (.if_icmp .ge 5, 3) := by decide +kernel
theorem dX5_rent_15 : decode cX5_rent 15 = .ok (.iconst (-1), 1) := by decide +kernel
theorem dX5_rent_16 : decode cX5_rent 16 = .ok (.ireturn, 1) := by decide +kernel
theorem dX5_rent_17 : decode cX5_rent 17 = .ok (.aload_n 0, 1) := by decide +kernel
theorem dX5_rent_18 : decode cX5_rent 18 = .ok (.getfield 52, 3) := by decide +kernel
theorem dX5_rent_21 : decode cX5_rent 21 = .ok (.aload_n 0, 1) := by decide +kernel
theorem dX5_rent_22 : decode cX5_rent 22 = .ok (.getfield 27, 3) := by decide +kernel
theorem dX5_rent_25 : decode cX5_rent 25 = .ok (.aload_n 0, 1) := by decide +kernel
theorem dX5_rent_26 : decode cX5_rent 26 = .ok (.getfield 37, 3) := by decide +kernel
theorem dX5_rent_29 : decode cX5_rent 29 = .ok (.getfield 98, 3) := by decide +kernel
theorem dX5_rent_32 : decode cX5_rent 32 = .ok (.aload_n 0, 1) := by decide +kernel
theorem dX5_rent_33 : decode cX5_rent 33 = .ok (.getfield 27, 3) := by decide +kernel
theorem dX5_rent_36 : decode cX5_rent 36 = .ok (.getfield 104, 3) := by decide +kernel
theorem dX5_rent_39 : decode cX5_rent 39 = .ok (.aload_n 0, 1) := by decide +kernel
theorem dX5_rent_40 : decode cX5_rent 40 = .ok (.getfield 27, 3) := by decide +kernel
theorem dX5_rent_43 : decode cX5_rent 43 = .ok (.getfield 122, 3) := by decide +kernel
theorem dX5_rent_46 : decode cX5_rent 46 = .ok (.invokevirtual 154, 3) := by decide +kernel
theorem dX5_rent_49 : decode cX5_rent 49 = .ok (.aload_n 0, 1) := by decide +kernel
theorem dX5_rent_50 : decode cX5_rent 50 = .ok (.getfield 52, 3) := by decide +kernel
theorem dX5_rent_53 : decode cX5_rent 53 = .ok (.aload_n 0, 1) := by decide +kernel
theorem dX5_rent_54 : decode cX5_rent 54 = .ok (.getfield 27, 3) := by decide +kernel
theorem dX5_rent_57 : decode cX5_rent 57 = .ok (.iload_n 1, 1) := by decide +kernel
theorem dX5_rent_58 : decode cX5_rent 58 = .ok (.invokevirtual 169, 3) := by decide +kernel
theorem dX5_rent_61 : decode cX5_rent 61 = .ok (.istore_n 3, 1) := by decide +kernel
theorem dX5_rent_62 : decode cX5_rent 62 = .ok (.iload_n 2, 1) := by decide +kernel
theorem dX5_rent_63 : decode cX5_rent 63 = .ok (.ifCond .ge 21, 3) := by decide +kernel
theorem dX5_rent_66 : decode cX5_rent 66 = .ok (.aload_n 0, 1) := by decide +kernel
theorem dX5_rent_67 : decode cX5_rent 67 = .ok (.getfield 27, 3) := by decide +kernel
theorem dX5_rent_70 : decode cX5_rent 70 = .ok (.aload_n 0, 1) := by decide +kernel
theorem dX5_rent_71 : decode cX5_rent 71 = .ok (.getfield 52, 3) := by decide +kernel
theorem dX5_rent_74 : decode cX5_rent 74 = .ok (.iload_n 3, 1) := by decide +kernel
theorem dX5_rent_75 : decode cX5_rent 75 = .ok (.invokevirtual 172, 3) := by decide +kernel
theorem dX5_rent_78 : decode cX5_rent 78 = .ok (.invokevirtual 116, 3) := by decide +kernel
theorem dX5_rent_81 : decode cX5_rent 81 = .ok (.goto 12, 3) := by decide +kernel
theorem dX5_rent_84 : decode cX5_rent 84 = .ok (.aload_n 0, 1) := by decide +kernel
theorem dX5_rent_85 : decode cX5_rent 85 = .ok (.getfield 52, 3) := by decide +kernel
theorem dX5_rent_88 : decode cX5_rent 88 = .ok (.iload_n 3, 1) := by decide +kernel
theorem dX5_rent_89 : decode cX5_rent 89 = .ok (.iload_n 2, 1) := by decide +kernel
theorem dX5_rent_90 : decode cX5_rent 90 = .ok (.invokevirtual 165, 3) := by decide +kernel
theorem dX5_rent_93 : decode cX5_rent 93 = .ok (.ireturn, 1) := by decide +kernel
theorem dX5_least_0 : decode cX5_least 0 = .ok (.aload_n 0, 1) := by decide +kernel
theorem dX5_least_1 : decode cX5_least 1 = .ok (.bipush 20, 2) := by decide +kernel
theorem dX5_least_3 : decode cX5_least 3 = .ok (.aload_n 0, 1) := by decide +kernel
theorem dX5_least_4 : decode cX5_least 4 = .ok (.getfield 27, 3) := by decide +kernel
theorem dX5_least_7 : decode cX5_least 7 = .ok (.getfield 122, 3) := by decide +kernel
theorem dX5_least_10 : decode cX5_least 10 = .ok (.invokevirtual 175, 3) := by decide +kernel
theorem dX5_least_13 : decode cX5_least 13 = .ok (.ifCond .ge 6, 3) := by decide +kernel
theorem dX5_least_16 : decode cX5_least 16 = .ok (.bipush (-9), 2) := by decide +kernel
theorem dX5_least_18 : decode cX5_least 18 = .ok (.ireturn, 1) := by decide +kernel
theorem dX5_least_19 : decode cX5_least 19 = .ok (.iconst 1, 1) := by decide +kernel
theorem dX5_least_20 : decode cX5_least 20 = .ok (.istore_n 1, 1) := by decide +kernel
theorem dX5_least_21 : decode cX5_least 21 = .ok (.bipush 20, 2) := by decide +kernel
theorem dX5_least_23 : decode cX5_least 23 = .ok (.istore_n 2, 1) := by decide +kernel
theorem dX5_least_24 : decode cX5_least 24 = .ok (.iconst 0, 1) := by decide +kernel
theorem dX5_least_25 : decode cX5_least 25 = .ok (.istore_n 3, 1) := by decide +kernel
theorem dX5_least_26 : decode cX5_least 26 = .ok (.iload_n 3, 1) := by decide +kernel
theorem dX5_least_27 : decode cX5_least 27 = .ok (.bipush 20, 2) := by decide +kernel
theorem dX5_least_29 : decode cX5_least 29 = .ok (.if_icmp .ge 48, 3) := by decide +kernel
theorem dX5_least_32 : decode cX5_least 32 = .ok (.iload_n 1, 1) := by decide +kernel
theorem dX5_least_33 : decode cX5_least 33 = .ok (.iload_n 2, 1) := by decide +kernel
theorem dX5_least_34 : decode cX5_least 34 = .ok (.if_icmp .ge 43, 3) := by decide +kernel
theorem dX5_least_37 : decode cX5_least 37 = .ok (.iload_n 1, 1) := by decide +kernel
theorem dX5_least_38 : decode cX5_least 38 = .ok (.iload_n 2, 1) := by decide +kernel
theorem dX5_least_39 : decode cX5_least 39 = .ok (.iadd, 1) := by decide +kernel
theorem dX5_least_40 : decode cX5_least 40 = .ok (.iconst 2, 1) := by decide +kernel
theorem dX5_least_41 : decode cX5_least 41 = .ok (.idiv, 1) := by decide +kernel
theorem dX5_least_42 : decode cX5_least 42 = .ok (.istore 4, 2) := by decide +kernel
theorem dX5_least_44 : decode cX5_least 44 = .ok (.aload_n 0, 1) := by decide +kernel
theorem dX5_least_45 : decode cX5_least 45 = .ok (.iload 4, 2) := by decide +kernel
theorem dX5_least_47 : decode cX5_least 47 = .ok (.aload_n 0, 1) := by decide +kernel
theorem dX5_least_48 : decode cX5_least 48 = .ok (.getfield 27, 3) := by decide +kernel
theorem dX5_least_51 : decode cX5_least 51 = .ok (.getfield 122, 3) := by decide +kernel
theorem dX5_least_54 : decode cX5_least 54 = .ok (.invokevirtual 175, 3) := by decide +kernel
theorem dX5_least_57 : decode cX5_least 57 = .ok (.ifCond .ge 11, 3) := by decide +kernel
theorem dX5_least_60 : decode cX5_least 60 = .ok (.iload 4, 2) := by decide +kernel
theorem dX5_least_62 : decode cX5_least 62 = .ok (.iconst 1, 1) := by decide +kernel
theorem dX5_least_63 : decode cX5_least 63 = .ok (.iadd, 1) := by decide +kernel
theorem dX5_least_64 : decode cX5_least 64 = .ok (.istore_n 1, 1) := by decide +kernel
theorem dX5_least_65 : decode cX5_least 65 = .ok (.goto 6, 3) := by decide +kernel
theorem dX5_least_68 : decode cX5_least 68 = .ok (.iload 4, 2) := by decide +kernel
theorem dX5_least_70 : decode cX5_least 70 = .ok (.istore_n 2, 1) := by decide +kernel
theorem dX5_least_71 : decode cX5_least 71 = .ok (.iinc 3 1, 3) := by decide +kernel
theorem dX5_least_74 : decode cX5_least 74 = .ok (.goto (-48), 3) := by decide +kernel
theorem dX5_least_77 : decode cX5_least 77 = .ok (.iload_n 1, 1) := by decide +kernel
theorem dX5_least_78 : decode cX5_least 78 = .ok (.ireturn, 1) := by decide +kernel
theorem dX5_sooner_0 : decode cX5_sooner 0 = .ok (.aload_n 0, 1) := by decide +kernel
theorem dX5_sooner_1 : decode cX5_sooner 1 = .ok (.getfield 27, 3) := by decide +kernel
theorem dX5_sooner_4 : decode cX5_sooner 4 = .ok (.iload_n 1, 1) := by decide +kernel
theorem dX5_sooner_5 : decode cX5_sooner 5 = .ok (.invokevirtual 78, 3) := by decide +kernel
theorem dX5_sooner_8 : decode cX5_sooner 8 = .ok (.ifCond .ne 6, 3) := by decide +kernel
theorem dX5_sooner_11 : decode cX5_sooner 11 = .ok (.ldc 178, 2) := by decide +kernel
theorem dX5_sooner_13 : decode cX5_sooner 13 = .ok (.ireturn, 1) := by decide +kernel
theorem dX5_sooner_14 : decode cX5_sooner 14 = .ok (.aload_n 0, 1) := by decide +kernel
theorem dX5_sooner_15 : decode cX5_sooner 15 = .ok (.aload_n 0, 1) := by decide +kernel
theorem dX5_sooner_16 : decode cX5_sooner 16 = .ok (.getfield 27, 3) := by decide +kernel
theorem dX5_sooner_19 : decode cX5_sooner 19 = .ok (.getfield 104, 3) := by decide +kernel
theorem dX5_sooner_22 : decode cX5_sooner 22 = .ok (.aload_n 0, 1) := by decide +kernel
theorem dX5_sooner_23 : decode cX5_sooner 23 = .ok (.getfield 27, 3) := by decide +kernel
theorem dX5_sooner_26 : decode cX5_sooner 26 = .ok (.getfield 122, 3) := by decide +kernel
theorem dX5_sooner_29 : decode cX5_sooner 29 = .ok (.invokevirtual 175, 3) := by decide +kernel
theorem dX5_sooner_32 : decode cX5_sooner 32 = .ok (.istore_n 2, 1) := by decide +kernel
theorem dX5_sooner_33 : decode cX5_sooner 33 = .ok (.iload_n 2, 1) := by decide +kernel
theorem dX5_sooner_34 : decode cX5_sooner 34 = .ok (.ifCond .ge 6, 3) := by decide +kernel
theorem dX5_sooner_37 : decode cX5_sooner 37 = .ok (.ldc 178, 2) := by decide +kernel
theorem dX5_sooner_39 : decode cX5_sooner 39 = .ok (.ireturn, 1) := by decide +kernel
theorem dX5_sooner_40 : decode cX5_sooner 40 = .ok (.aload_n 0, 1) := by decide +kernel
theorem dX5_sooner_41 : decode cX5_sooner 41 = .ok (.aload_n 0, 1) := by decide +kernel
theorem dX5_sooner_42 : decode cX5_sooner 42 = .ok (.getfield 27, 3) := by decide +kernel
theorem dX5_sooner_45 : decode cX5_sooner 45 = .ok (.getfield 104, 3) := by decide +kernel
theorem dX5_sooner_48 : decode cX5_sooner 48 = .ok (.aload_n 0, 1) := by decide +kernel
theorem dX5_sooner_49 : decode cX5_sooner 49 = .ok (.getfield 27, 3) := by decide +kernel
theorem dX5_sooner_52 : decode cX5_sooner 52 = .ok (.getfield 122, 3) := by decide +kernel
theorem dX5_sooner_55 : decode cX5_sooner 55 = .ok (.iconst 1, 1) := by decide +kernel
theorem dX5_sooner_56 : decode cX5_sooner 56 = .ok (.iload_n 1, 1) := by decide +kernel
theorem dX5_sooner_57 : decode cX5_sooner 57 = .ok (.ishl, 1) := by decide +kernel
theorem dX5_sooner_58 : decode cX5_sooner 58 = .ok (.iconst (-1), 1) := by decide +kernel
theorem dX5_sooner_59 : decode cX5_sooner 59 = .ok (.ixor, 1) := by decide +kernel
theorem dX5_sooner_60 : decode cX5_sooner 60 = .ok (.iand, 1) := by decide +kernel
theorem dX5_sooner_61 : decode cX5_sooner 61 = .ok (.invokevirtual 175, 3) := by decide +kernel
theorem dX5_sooner_64 : decode cX5_sooner 64 = .ok (.istore_n 3, 1) := by decide +kernel
theorem dX5_sooner_65 : decode cX5_sooner 65 = .ok (.iload_n 3, 1) := by decide +kernel
theorem dX5_sooner_66 : decode cX5_sooner 66 = .ok (.ifCond .ge 8, 3) := by decide +kernel
theorem dX5_sooner_69 : decode cX5_sooner 69 = .ok (.ldc 178, 2) := by decide +kernel
theorem dX5_sooner_71 : decode cX5_sooner 71 = .ok (.goto 6, 3) := by decide +kernel
theorem dX5_sooner_74 : decode cX5_sooner 74 = .ok (.iload_n 2, 1) := by decide +kernel
theorem dX5_sooner_75 : decode cX5_sooner 75 = .ok (.iload_n 3, 1) := by decide +kernel
theorem dX5_sooner_76 : decode cX5_sooner 76 = .ok (.isub, 1) := by decide +kernel
theorem dX5_sooner_77 : decode cX5_sooner 77 = .ok (.ireturn, 1) := by decide +kernel
theorem dX5_standings_0 : decode cX5_standings 0 = .ok (.aload_n 0, 1) := by decide +kernel
theorem dX5_standings_1 : decode cX5_standings 1 = .ok (.getfield 52, 3) := by decide +kernel
theorem dX5_standings_4 : decode cX5_standings 4 = .ok (.aload_n 0, 1) := by decide +kernel
theorem dX5_standings_5 : decode cX5_standings 5 = .ok (.getfield 27, 3) := by decide +kernel
theorem dX5_standings_8 : decode cX5_standings 8 = .ok (.aload_n 0, 1) := by decide +kernel
theorem dX5_standings_9 : decode cX5_standings 9 = .ok (.getfield 37, 3) := by decide +kernel
theorem dX5_standings_12 : decode cX5_standings 12 = .ok (.getfield 98, 3) := by decide +kernel
theorem dX5_standings_15 : decode cX5_standings 15 = .ok (.aload_n 0, 1) := by decide +kernel
theorem dX5_standings_16 : decode cX5_standings 16 = .ok (.getfield 27, 3) := by decide +kernel
theorem dX5_standings_19 : decode cX5_standings 19 = .ok (.getfield 104, 3) := by decide +kernel
theorem dX5_standings_22 : decode cX5_standings 22 = .ok (.aload_n 0, 1) := by decide +kernel
theorem dX5_standings_23 : decode cX5_standings 23 = .ok (.getfield 27, 3) := by decide +kernel
theorem dX5_standings_26 : decode cX5_standings 26 = .ok (.getfield 122, 3) := by decide +kernel
theorem dX5_standings_29 : decode cX5_standings 29 = .ok (.invokevirtual 154, 3) := by decide +kernel
theorem dX5_standings_32 : decode cX5_standings 32 = .ok (.aload_n 0, 1) := by decide +kernel
theorem dX5_standings_33 : decode cX5_standings 33 = .ok (.getfield 52, 3) := by decide +kernel
theorem dX5_standings_36 : decode cX5_standings 36 = .ok (.getfield 179, 3) := by decide +kernel
theorem dX5_standings_39 : decode cX5_standings 39 = .ok (.ireturn, 1) := by decide +kernel
theorem dX5_crossingsTill_0 : decode cX5_crossingsTill 0 = .ok (.aload_n 0, 1) := by decide +kernel
theorem dX5_crossingsTill_1 : decode cX5_crossingsTill 1 = .ok (.getfield 52, 3) := by decide +kernel
theorem dX5_crossingsTill_4 : decode cX5_crossingsTill 4 = .ok (.aload_n 0, 1) := by decide +kernel
theorem dX5_crossingsTill_5 : decode cX5_crossingsTill 5 = .ok (.getfield 27, 3) := by decide +kernel
theorem dX5_crossingsTill_8 : decode cX5_crossingsTill 8 = .ok (.aload_n 0, 1) := by decide +kernel
theorem dX5_crossingsTill_9 : decode cX5_crossingsTill 9 = .ok (.getfield 37, 3) := by decide +kernel
theorem dX5_crossingsTill_12 : decode cX5_crossingsTill 12 = .ok (.getfield 98, 3) := by decide +kernel
theorem dX5_crossingsTill_15 : decode cX5_crossingsTill 15 = .ok (.iload_n 1, 1) := by decide +kernel
theorem dX5_crossingsTill_16 : decode cX5_crossingsTill 16 = .ok (.iload_n 2, 1) := by decide +kernel
theorem dX5_crossingsTill_17 : decode cX5_crossingsTill 17 = .ok (.invokevirtual 154, 3) := by decide +kernel
theorem dX5_crossingsTill_20 : decode cX5_crossingsTill 20 = .ok (.aload_n 0, 1) := by decide +kernel
theorem dX5_crossingsTill_21 : decode cX5_crossingsTill 21 = .ok (.getfield 52, 3) := by decide +kernel
theorem dX5_crossingsTill_24 : decode cX5_crossingsTill 24 = .ok (.aload_n 0, 1) := by decide +kernel
theorem dX5_crossingsTill_25 : decode cX5_crossingsTill 25 = .ok (.getfield 27, 3) := by decide +kernel
theorem dX5_crossingsTill_28 : decode cX5_crossingsTill 28 = .ok (.iload_n 2, 1) := by decide +kernel
theorem dX5_crossingsTill_29 : decode cX5_crossingsTill 29 = .ok (.invokevirtual 158, 3) := by decide +kernel
theorem dX5_crossingsTill_32 : decode cX5_crossingsTill 32 = .ok (.istore_n 3, 1) := by decide +kernel
theorem dX5_crossingsTill_33 : decode cX5_crossingsTill 33 = .ok (.iload_n 3, 1) := by decide +kernel
theorem dX5_crossingsTill_34 : decode cX5_crossingsTill 34 = .ok (.ifCond .ge 7, 3) := by decide +kernel
theorem dX5_crossingsTill_37 : decode cX5_crossingsTill 37 = .ok (.iconst (-1), 1) := by decide +kernel
theorem dX5_crossingsTill_38 : decode cX5_crossingsTill 38 = .ok (.goto 11, 3) := by decide +kernel
theorem dX5_crossingsTill_41 : decode cX5_crossingsTill 41 = .ok (.aload_n 0, 1) := by decide +kernel
theorem dX5_crossingsTill_42 : decode cX5_crossingsTill 42 = .ok (.getfield 52, 3) := by decide +kernel
theorem dX5_crossingsTill_45 : decode cX5_crossingsTill 45 = .ok (.iload_n 3, 1) := by decide +kernel
theorem dX5_crossingsTill_46 : decode cX5_crossingsTill 46 = .ok (.invokevirtual 162, 3) := by decide +kernel
theorem dX5_crossingsTill_49 : decode cX5_crossingsTill 49 = .ok (.ireturn, 1) := by decide +kernel
theorem dX5_saw_0 : decode cX5_saw 0 = .ok (.iload_n 1, 1) := by decide +kernel
theorem dX5_saw_1 : decode cX5_saw 1 = .ok (.ifCond .lt 28, 3) := by decide +kernel
theorem dX5_saw_4 : decode cX5_saw 4 = .ok (.iload_n 1, 1) := by decide +kernel
theorem dX5_saw_5 : decode cX5_saw 5 = .ok (.iconst 5, 1) := by decide +kernel
theorem dX5_saw_6 : decode cX5_saw 6 = .ok (.if_icmp .gt 23, 3) := by decide +kernel
theorem dX5_saw_9 : decode cX5_saw 9 = .ok (.aload_n 0, 1) := by decide +kernel
theorem dX5_saw_10 : decode cX5_saw 10 = .ok (.getfield 27, 3) := by decide +kernel
theorem dX5_saw_13 : decode cX5_saw 13 = .ok (.iload_n 2, 1) := by decide +kernel
theorem dX5_saw_14 : decode cX5_saw 14 = .ok (.invokevirtual 78, 3) := by decide +kernel
theorem dX5_saw_17 : decode cX5_saw 17 = .ok (.ifCond .eq 12, 3) := by decide +kernel
theorem dX5_saw_20 : decode cX5_saw 20 = .ok (.iload_n 3, 1) := by decide +kernel
theorem dX5_saw_21 : decode cX5_saw 21 = .ok (.ifCond .lt 8, 3) := by decide +kernel
theorem dX5_saw_24 : decode cX5_saw 24 = .ok (.iload_n 3, 1) := by decide +kernel
theorem dX5_saw_25 : decode cX5_saw 25 = .ok (.iconst 1, 1) := by decide +kernel
theorem dX5_saw_26 : decode cX5_saw 26 = .ok (.if_icmp .le 5, 3) := by decide +kernel
theorem dX5_saw_29 : decode cX5_saw 29 = .ok (.iconst (-1), 1) := by decide +kernel
theorem dX5_saw_30 : decode cX5_saw 30 = .ok (.ireturn, 1) := by decide +kernel
theorem dX5_saw_31 : decode cX5_saw 31 = .ok (.aload_n 0, 1) := by decide +kernel
theorem dX5_saw_32 : decode cX5_saw 32 = .ok (.getfield 59, 3) := by decide +kernel
theorem dX5_saw_35 : decode cX5_saw 35 = .ok (.getfield 182, 3) := by decide +kernel
theorem dX5_saw_38 : decode cX5_saw 38 = .ok (.bipush 8, 2) := by decide +kernel
theorem dX5_saw_40 : decode cX5_saw 40 = .ok (.if_icmp .lt 6, 3) := by decide +kernel
theorem dX5_saw_43 : decode cX5_saw 43 = .ok (.bipush (-3), 2) := by decide +kernel
theorem dX5_saw_45 : decode cX5_saw 45 = .ok (.ireturn, 1) := by decide +kernel
theorem dX5_saw_46 : decode cX5_saw 46 = .ok (.aload_n 0, 1) := by decide +kernel
theorem dX5_saw_47 : decode cX5_saw 47 = .ok (.getfield 59, 3) := by decide +kernel
theorem dX5_saw_50 : decode cX5_saw 50 = .ok (.iload_n 1, 1) := by decide +kernel
theorem dX5_saw_51 : decode cX5_saw 51 = .ok (.iload_n 2, 1) := by decide +kernel
theorem dX5_saw_52 : decode cX5_saw 52 = .ok (.iload_n 3, 1) := by decide +kernel
theorem dX5_saw_53 : decode cX5_saw 53 = .ok (.invokevirtual 185, 3) := by decide +kernel
theorem dX5_saw_56 : decode cX5_saw 56 = .ok (.aload_n 0, 1) := by decide +kernel
theorem dX5_saw_57 : decode cX5_saw 57 = .ok (.getfield 59, 3) := by decide +kernel
theorem dX5_saw_60 : decode cX5_saw 60 = .ok (.getfield 182, 3) := by decide +kernel
theorem dX5_saw_63 : decode cX5_saw 63 = .ok (.ireturn, 1) := by decide +kernel
theorem dX5_forget_0 : decode cX5_forget 0 = .ok (.aload_n 0, 1) := by decide +kernel
theorem dX5_forget_1 : decode cX5_forget 1 = .ok (.getfield 59, 3) := by decide +kernel
theorem dX5_forget_4 : decode cX5_forget 4 = .ok (.getfield 182, 3) := by decide +kernel
theorem dX5_forget_7 : decode cX5_forget 7 = .ok (.istore_n 1, 1) := by decide +kernel
theorem dX5_forget_8 : decode cX5_forget 8 = .ok (.aload_n 0, 1) := by decide +kernel
theorem dX5_forget_9 : decode cX5_forget 9 = .ok (.getfield 59, 3) := by decide +kernel
theorem dX5_forget_12 : decode cX5_forget 12 = .ok (.invokevirtual 75, 3) := by decide +kernel
theorem dX5_forget_15 : decode cX5_forget 15 = .ok (.iload_n 1, 1) := by decide +kernel
theorem dX5_forget_16 : decode cX5_forget 16 = .ok (.ireturn, 1) := by decide +kernel
theorem dX5_fits_0 : decode cX5_fits 0 = .ok (.iload_n 1, 1) := by decide +kernel
theorem dX5_fits_1 : decode cX5_fits 1 = .ok (.ifCond .lt 17, 3) := by decide +kernel
theorem dX5_fits_4 : decode cX5_fits 4 = .ok (.iload_n 1, 1) := by decide +kernel
theorem dX5_fits_5 : decode cX5_fits 5 = .ok (.iconst 5, 1) := by decide +kernel
theorem dX5_fits_6 : decode cX5_fits 6 = .ok (.if_icmp .gt 12, 3) := by decide +kernel
theorem dX5_fits_9 : decode cX5_fits 9 = .ok (.iload_n 2, 1) := by decide +kernel
theorem dX5_fits_10 : decode cX5_fits 10 = .ok (.ifCond .lt 8, 3) := by decide +kernel
theorem dX5_fits_13 : decode cX5_fits 13 = .ok (.iload_n 2, 1) := by decide +kernel
theorem dX5_fits_14 : decode cX5_fits 14 = .ok (.iload_n 1, 1) := by decide +kernel
theorem dX5_fits_15 : decode cX5_fits 15 = .ok (.if_icmp .le 7, 3) := by decide +kernel
theorem dX5_fits_18 : decode cX5_fits 18 = .ok (.ldc2_w 189, 3) := by decide +kernel
theorem dX5_fits_21 : decode cX5_fits 21 = .ok (.lreturn, 1) := by decide +kernel
theorem dX5_fits_22 : decode cX5_fits 22 = .ok (.aload_n 0, 1) := by decide +kernel
theorem dX5_fits_23 : decode cX5_fits 23 = .ok (.getfield 59, 3) := by decide +kernel
theorem dX5_fits_26 : decode cX5_fits 26 = .ok (.aload_n 0, 1) := by decide +kernel
theorem dX5_fits_27 : decode cX5_fits 27 = .ok (.getfield 27, 3) := by decide +kernel
theorem dX5_fits_30 : decode cX5_fits 30 = .ok (.iload_n 1, 1) := by decide +kernel
theorem dX5_fits_31 : decode cX5_fits 31 = .ok (.invokevirtual 191, 3) := by decide +kernel
theorem dX5_fits_34 : decode cX5_fits 34 = .ok (.iload_n 2, 1) := by decide +kernel
theorem dX5_fits_35 : decode cX5_fits 35 = .ok (.ifCond .ne 14, 3) := by decide +kernel
theorem dX5_fits_38 : decode cX5_fits 38 = .ok (.aload_n 0, 1) := by decide +kernel
theorem dX5_fits_39 : decode cX5_fits 39 = .ok (.getfield 59, 3) := by decide +kernel
theorem dX5_fits_42 : decode cX5_fits 42 = .ok (.iload_n 1, 1) := by decide +kernel
theorem dX5_fits_43 : decode cX5_fits 43 = .ok (.invokevirtual 195, 3) := by decide +kernel
theorem dX5_fits_46 : decode cX5_fits 46 = .ok (.goto 17, 3) := by decide +kernel
theorem dX5_fits_49 : decode cX5_fits 49 = .ok (.aload_n 0, 1) := by decide +kernel
theorem dX5_fits_50 : decode cX5_fits 50 = .ok (.getfield 59, 3) := by decide +kernel
theorem dX5_fits_53 : decode cX5_fits 53 = .ok (.aload_n 0, 1) := by decide +kernel
theorem dX5_fits_54 : decode cX5_fits 54 = .ok (.getfield 27, 3) := by decide +kernel
theorem dX5_fits_57 : decode cX5_fits 57 = .ok (.iload_n 1, 1) := by decide +kernel
theorem dX5_fits_58 : decode cX5_fits 58 = .ok (.iload_n 2, 1) := by decide +kernel
theorem dX5_fits_59 : decode cX5_fits 59 = .ok (.invokevirtual 199, 3) := by decide +kernel
theorem dX5_fits_62 : decode cX5_fits 62 = .ok (.i2l, 1) := by decide +kernel
theorem dX5_fits_63 : decode cX5_fits 63 = .ok (.lreturn, 1) := by decide +kernel
theorem dX5_owed_0 : decode cX5_owed 0 = .ok (.aload_n 0, 1) := by decide +kernel
theorem dX5_owed_1 : decode cX5_owed 1 = .ok (.getfield 27, 3) := by decide +kernel
theorem dX5_owed_4 : decode cX5_owed 4 = .ok (.iload_n 1, 1) := by decide +kernel
theorem dX5_owed_5 : decode cX5_owed 5 = .ok (.invokevirtual 78, 3) := by decide +kernel
theorem dX5_owed_8 : decode cX5_owed 8 = .ok (.ifCond .eq 13, 3) := by decide +kernel
theorem dX5_owed_11 : decode cX5_owed 11 = .ok (.iload_n 2, 1) := by decide +kernel
theorem dX5_owed_12 : decode cX5_owed 12 = .ok (.ifCond .lt 9, 3) := by decide +kernel
theorem dX5_owed_15 : decode cX5_owed 15 = .ok (.iload_n 2, 1) := by decide +kernel
theorem dX5_owed_16 : decode cX5_owed 16 = .ok (.bipush 50, 2) := by decide +kernel
theorem dX5_owed_18 : decode cX5_owed 18 = .ok (.if_icmp .le 7, 3) := by decide +kernel
theorem dX5_owed_21 : decode cX5_owed 21 = .ok (.ldc2_w 189, 3) := by decide +kernel
theorem dX5_owed_24 : decode cX5_owed 24 = .ok (.lreturn, 1) := by decide +kernel
theorem dX5_owed_25 : decode cX5_owed 25 = .ok (.aload_n 0, 1) := by decide +kernel
theorem dX5_owed_26 : decode cX5_owed 26 = .ok (.getfield 27, 3) := by decide +kernel
theorem dX5_owed_29 : decode cX5_owed 29 = .ok (.aload_n 0, 1) := by decide +kernel
theorem dX5_owed_30 : decode cX5_owed 30 = .ok (.getfield 37, 3) := by decide +kernel
theorem dX5_owed_33 : decode cX5_owed 33 = .ok (.getfield 98, 3) := by decide +kernel
theorem dX5_owed_36 : decode cX5_owed 36 = .ok (.invokevirtual 113, 3) := by decide +kernel
theorem dX5_owed_39 : decode cX5_owed 39 = .ok (.iconst 1, 1) := by decide +kernel
theorem dX5_owed_40 : decode cX5_owed 40 = .ok (.iload_n 1, 1) := by decide +kernel
theorem dX5_owed_41 : decode cX5_owed 41 = .ok (.ishl, 1) := by decide +kernel
theorem dX5_owed_42 : decode cX5_owed 42 = .ok (.iand, 1) := by decide +kernel
theorem dX5_owed_43 : decode cX5_owed 43 = .ok (.ifCond .ne 5, 3) := by decide +kernel
theorem dX5_owed_46 : decode cX5_owed 46 = .ok (.lconst 0, 1) := by decide +kernel
theorem dX5_owed_47 : decode cX5_owed 47 = .ok (.lreturn, 1) := by decide +kernel
theorem dX5_owed_48 : decode cX5_owed 48 = .ok (.lconst 0, 1) := by decide +kernel
theorem dX5_owed_49 : decode cX5_owed 49 = .ok (.lstore_n 3, 1) := by decide +kernel
theorem dX5_owed_50 : decode cX5_owed 50 = .ok (.iconst 0, 1) := by decide +kernel
theorem dX5_owed_51 : decode cX5_owed 51 = .ok (.istore 5, 2) := by decide +kernel
theorem dX5_owed_53 : decode cX5_owed 53 = .ok (.iload 5, 2) := by decide +kernel
theorem dX5_owed_55 : decode cX5_owed 55 = .ok (.iload_n 2, 1) := by decide +kernel
theorem dX5_owed_56 : decode cX5_owed 56 = .ok (.if_icmp .ge 28, 3) := by decide +kernel
theorem dX5_owed_59 : decode cX5_owed 59 = .ok (.lload_n 3, 1) := by decide +kernel
theorem dX5_owed_60 : decode cX5_owed 60 = .ok (.lload_n 3, 1) := by decide +kernel
theorem dX5_owed_61 : decode cX5_owed 61 = .ok (.ldc2_w 203, 3) := by decide +kernel
theorem dX5_owed_64 : decode cX5_owed 64 = .ok (.ldiv, 1) := by decide +kernel
theorem dX5_owed_65 : decode cX5_owed 65 = .ok (.aload_n 0, 1) := by decide +kernel
theorem dX5_owed_66 : decode cX5_owed 66 = .ok (.getfield 27, 3) := by decide +kernel
theorem dX5_owed_69 : decode cX5_owed 69 = .ok (.getfield 89, 3) := by decide +kernel
theorem dX5_owed_72 : decode cX5_owed 72 = .ok (.iload_n 1, 1) := by decide +kernel
theorem dX5_owed_73 : decode cX5_owed 73 = .ok (.iaload, 1) := by decide +kernel
theorem dX5_owed_74 : decode cX5_owed 74 = .ok (.i2l, 1) := by decide +kernel
theorem dX5_owed_75 : decode cX5_owed 75 = .ok (.ladd, 1) := by decide +kernel
theorem dX5_owed_76 : decode cX5_owed 76 = .ok (.ladd, 1) := by decide +kernel
theorem dX5_owed_77 : decode cX5_owed 77 = .ok (.lstore_n 3, 1) := by decide +kernel
theorem dX5_owed_78 : decode cX5_owed 78 = .ok (.iinc 5 1, 3) := by decide +kernel
theorem dX5_owed_81 : decode cX5_owed 81 = .ok (.goto (-28), 3) := by decide +kernel
theorem dX5_owed_84 : decode cX5_owed 84 = .ok (.lload_n 3, 1) := by decide +kernel
theorem dX5_owed_85 : decode cX5_owed 85 = .ok (.lreturn, 1) := by decide +kernel
theorem dX5_mark_0 : decode cX5_mark 0 = .ok (.aload_n 0, 1) := by decide +kernel
theorem dX5_mark_1 : decode cX5_mark 1 = .ok (.getfield 27, 3) := by decide +kernel
theorem dX5_mark_4 : decode cX5_mark 4 = .ok (.iload_n 2, 1) := by decide +kernel
theorem dX5_mark_5 : decode cX5_mark 5 = .ok (.invokevirtual 78, 3) := by decide +kernel
theorem dX5_mark_8 : decode cX5_mark 8 = .ok (.ifCond .ne 6, 3) := by decide +kernel
theorem dX5_mark_11 : decode cX5_mark 11 = .ok (.ldc 178, 2) := by decide +kernel
theorem dX5_mark_13 : decode cX5_mark 13 = .ok (.ireturn, 1) := by decide +kernel
theorem dX5_mark_14 : decode cX5_mark 14 = .ok (.iload_n 1, 1) := by decide +kernel
theorem dX5_mark_15 : decode cX5_mark 15 = .ok (.tableswitch 73 0 5 #[37, 43, 49, 55, 61, 67], 37) := by decide +kernel
theorem dX5_mark_52 : decode cX5_mark 52 = .ok (.aload_n 0, 1) := by decide +kernel
theorem dX5_mark_53 : decode cX5_mark 53 = .ok (.iload_n 2, 1) := by decide +kernel
theorem dX5_mark_54 : decode cX5_mark 54 = .ok (.invokevirtual 205, 3) := by decide +kernel
theorem dX5_mark_57 : decode cX5_mark 57 = .ok (.ireturn, 1) := by decide +kernel
theorem dX5_mark_58 : decode cX5_mark 58 = .ok (.aload_n 0, 1) := by decide +kernel
theorem dX5_mark_59 : decode cX5_mark 59 = .ok (.iload_n 2, 1) := by decide +kernel
theorem dX5_mark_60 : decode cX5_mark 60 = .ok (.invokevirtual 208, 3) := by decide +kernel
theorem dX5_mark_63 : decode cX5_mark 63 = .ok (.ireturn, 1) := by decide +kernel
theorem dX5_mark_64 : decode cX5_mark 64 = .ok (.aload_n 0, 1) := by decide +kernel
theorem dX5_mark_65 : decode cX5_mark 65 = .ok (.iload_n 2, 1) := by decide +kernel
theorem dX5_mark_66 : decode cX5_mark 66 = .ok (.invokevirtual 211, 3) := by decide +kernel
theorem dX5_mark_69 : decode cX5_mark 69 = .ok (.ireturn, 1) := by decide +kernel
theorem dX5_mark_70 : decode cX5_mark 70 = .ok (.aload_n 0, 1) := by decide +kernel
theorem dX5_mark_71 : decode cX5_mark 71 = .ok (.iload_n 2, 1) := by decide +kernel
theorem dX5_mark_72 : decode cX5_mark 72 = .ok (.invokevirtual 214, 3) := by decide +kernel
theorem dX5_mark_75 : decode cX5_mark 75 = .ok (.ireturn, 1) := by decide +kernel
theorem dX5_mark_76 : decode cX5_mark 76 = .ok (.aload_n 0, 1) := by decide +kernel
theorem dX5_mark_77 : decode cX5_mark 77 = .ok (.iload_n 2, 1) := by decide +kernel
theorem dX5_mark_78 : decode cX5_mark 78 = .ok (.invokevirtual 217, 3) := by decide +kernel
theorem dX5_mark_81 : decode cX5_mark 81 = .ok (.ireturn, 1) := by decide +kernel
theorem dX5_mark_82 : decode cX5_mark 82 = .ok (.aload_n 0, 1) := by decide +kernel
theorem dX5_mark_83 : decode cX5_mark 83 = .ok (.iload_n 2, 1) := by decide +kernel
theorem dX5_mark_84 : decode cX5_mark 84 = .ok (.invokevirtual 220, 3) := by decide +kernel
theorem dX5_mark_87 : decode cX5_mark 87 = .ok (.ireturn, 1) := by decide +kernel
theorem dX5_mark_88 : decode cX5_mark 88 = .ok (.ldc 178, 2) := by decide +kernel
theorem dX5_mark_90 : decode cX5_mark 90 = .ok (.ireturn, 1) := by decide +kernel
theorem dX5_markThing_0 : decode cX5_markThing 0 = .ok (.aload_n 0, 1) := by decide +kernel
theorem dX5_markThing_1 : decode cX5_markThing 1 = .ok (.dup, 1) := by decide +kernel
theorem dX5_markThing_2 : decode cX5_markThing 2 = .ok (.getfield 63, 3) := by decide +kernel
theorem dX5_markThing_5 : decode cX5_markThing 5 = .ok (.lconst 1, 1) := by decide +kernel
theorem dX5_markThing_6 : decode cX5_markThing 6 = .ok (.ladd, 1) := by decide +kernel
theorem dX5_markThing_7 : decode cX5_markThing 7 = .ok (.putfield 63, 3) := by decide +kernel
theorem dX5_markThing_10 : decode cX5_markThing 10 = .ok (.aload_n 0, 1) := by decide +kernel
theorem dX5_markThing_11 : decode cX5_markThing 11 = .ok (.getfield 27, 3) := by decide +kernel
theorem dX5_markThing_14 : decode cX5_markThing 14 = .ok (.iload_n 1, 1) := by decide +kernel
theorem dX5_markThing_15 : decode cX5_markThing 15 = .ok (.invokevirtual 78, 3) := by decide +kernel
theorem dX5_markThing_18 : decode cX5_markThing 18 = .ok (.ifCond .eq 15, 3) := by decide +kernel
theorem dX5_markThing_21 : decode cX5_markThing 21 = .ok (.aload_n 0, 1) := by decide +kernel
theorem dX5_markThing_22 : decode cX5_markThing 22 = .ok (.getfield 27, 3) := by decide +kernel
theorem dX5_markThing_25 : decode cX5_markThing 25 = .ok (.getfield 89, 3) := by decide +kernel
theorem dX5_markThing_28 : decode cX5_markThing 28 = .ok (.iload_n 1, 1) := by decide +kernel
theorem dX5_markThing_29 : decode cX5_markThing 29 = .ok (.iaload, 1) := by decide +kernel
theorem dX5_markThing_30 : decode cX5_markThing 30 = .ok (.goto 4, 3) := by decide +kernel
theorem dX5_markThing_33 : decode cX5_markThing 33 = .ok (.iconst 0, 1) := by decide +kernel
theorem dX5_markThing_34 : decode cX5_markThing 34 = .ok (.ireturn, 1) := by decide +kernel
theorem dX5_markCow_0 : decode cX5_markCow 0 = .ok (.aload_n 0, 1) := by decide +kernel
theorem dX5_markCow_1 : decode cX5_markCow 1 = .ok (.dup, 1) := by decide +kernel
theorem dX5_markCow_2 : decode cX5_markCow 2 = .ok (.getfield 63, 3) := by decide +kernel
theorem dX5_markCow_5 : decode cX5_markCow 5 = .ok (.ldc2_w 203, 3) := by decide +kernel
theorem dX5_markCow_8 : decode cX5_markCow 8 = .ok (.ladd, 1) := by decide +kernel
theorem dX5_markCow_9 : decode cX5_markCow 9 = .ok (.putfield 63, 3) := by decide +kernel
theorem dX5_markCow_12 : decode cX5_markCow 12 = .ok (.aload_n 0, 1) := by decide +kernel
theorem dX5_markCow_13 : decode cX5_markCow 13 = .ok (.iload_n 1, 1) := by decide +kernel
theorem dX5_markCow_14 : decode cX5_markCow 14 = .ok (.invokevirtual 205, 3) := by decide +kernel
theorem dX5_markCow_17 : decode cX5_markCow 17 = .ok (.aload_n 0, 1) := by decide +kernel
theorem dX5_markCow_18 : decode cX5_markCow 18 = .ok (.getfield 27, 3) := by decide +kernel
theorem dX5_markCow_21 : decode cX5_markCow 21 = .ok (.iload_n 1, 1) := by decide +kernel
theorem dX5_markCow_22 : decode cX5_markCow 22 = .ok (.invokevirtual 78, 3) := by decide +kernel
theorem dX5_markCow_25 : decode cX5_markCow 25 = .ok (.ifCond .eq 15, 3) := by decide +kernel
theorem dX5_markCow_28 : decode cX5_markCow 28 = .ok (.aload_n 0, 1) := by decide +kernel
theorem dX5_markCow_29 : decode cX5_markCow 29 = .ok (.getfield 27, 3) := by decide +kernel
theorem dX5_markCow_32 : decode cX5_markCow 32 = .ok (.getfield 92, 3) := by decide +kernel
theorem dX5_markCow_35 : decode cX5_markCow 35 = .ok (.iload_n 1, 1) := by decide +kernel
theorem dX5_markCow_36 : decode cX5_markCow 36 = .ok (.iaload, 1) := by decide +kernel
theorem dX5_markCow_37 : decode cX5_markCow 37 = .ok (.goto 4, 3) := by decide +kernel
theorem dX5_markCow_40 : decode cX5_markCow 40 = .ok (.iconst 0, 1) := by decide +kernel
theorem dX5_markCow_41 : decode cX5_markCow 41 = .ok (.iadd, 1) := by decide +kernel
theorem dX5_markCow_42 : decode cX5_markCow 42 = .ok (.ireturn, 1) := by decide +kernel
theorem dX5_markBride_0 : decode cX5_markBride 0 = .ok (.aload_n 0, 1) := by decide +kernel
theorem dX5_markBride_1 : decode cX5_markBride 1 = .ok (.dup, 1) := by decide +kernel
theorem dX5_markBride_2 : decode cX5_markBride 2 = .ok (.getfield 63, 3) := by decide +kernel
theorem dX5_markBride_5 : decode cX5_markBride 5 = .ok (.ldc2_w 223, 3) := by decide +kernel
theorem dX5_markBride_8 : decode cX5_markBride 8 = .ok (.ladd, 1) := by decide +kernel
theorem dX5_markBride_9 : decode cX5_markBride 9 = .ok (.putfield 63, 3) := by decide +kernel
theorem dX5_markBride_12 : decode cX5_markBride 12 = .ok (.aload_n 0, 1) := by decide +kernel
theorem dX5_markBride_13 : decode cX5_markBride 13 = .ok (.iload_n 1, 1) := by decide +kernel
theorem dX5_markBride_14 : decode cX5_markBride 14 = .ok (.invokevirtual 205, 3) := by decide +kernel
theorem dX5_markBride_17 : decode cX5_markBride 17 = .ok (.aload_n 0, 1) := by decide +kernel
theorem dX5_markBride_18 : decode cX5_markBride 18 = .ok (.getfield 27, 3) := by decide +kernel
theorem dX5_markBride_21 : decode cX5_markBride 21 = .ok (.iload_n 1, 1) := by decide +kernel
theorem dX5_markBride_22 : decode cX5_markBride 22 = .ok (.invokevirtual 78, 3) := by decide +kernel
theorem dX5_markBride_25 : decode cX5_markBride 25 = .ok (.ifCond .eq 18, 3) := by decide +kernel
theorem dX5_markBride_28 : decode cX5_markBride 28 = .ok (.aload_n 0, 1) := by decide +kernel
theorem dX5_markBride_29 : decode cX5_markBride 29 = .ok (.getfield 27, 3) := by decide +kernel
theorem dX5_markBride_32 : decode cX5_markBride 32 = .ok (.getfield 95, 3) := by decide +kernel
theorem dX5_markBride_35 : decode cX5_markBride 35 = .ok (.iload_n 1, 1) := by decide +kernel
theorem dX5_markBride_36 : decode cX5_markBride 36 = .ok (.iaload, 1) := by decide +kernel
theorem dX5_markBride_37 : decode cX5_markBride 37 = .ok (.invokestatic 225, 3) := by decide +kernel
theorem dX5_markBride_40 : decode cX5_markBride 40 = .ok (.goto 4, 3) := by decide +kernel
theorem dX5_markBride_43 : decode cX5_markBride 43 = .ok (.iconst 0, 1) := by decide +kernel
theorem dX5_markBride_44 : decode cX5_markBride 44 = .ok (.isub, 1) := by decide +kernel
theorem dX5_markBride_45 : decode cX5_markBride 45 = .ok (.ireturn, 1) := by decide +kernel
theorem dX5_markTwin_0 : decode cX5_markTwin 0 = .ok (.aload_n 0, 1) := by decide +kernel
theorem dX5_markTwin_1 : decode cX5_markTwin 1 = .ok (.dup, 1) := by decide +kernel
theorem dX5_markTwin_2 : decode cX5_markTwin 2 = .ok (.getfield 63, 3) := by decide +kernel
theorem dX5_markTwin_5 : decode cX5_markTwin 5 = .ok (.ldc2_w 230, 3) := by decide +kernel
theorem dX5_markTwin_8 : decode cX5_markTwin 8 = .ok (.ladd, 1) := by decide +kernel
theorem dX5_markTwin_9 : decode cX5_markTwin 9 = .ok (.putfield 63, 3) := by decide +kernel
theorem dX5_markTwin_12 : decode cX5_markTwin 12 = .ok (.aload_n 0, 1) := by decide +kernel
theorem dX5_markTwin_13 : decode cX5_markTwin 13 = .ok (.iload_n 1, 1) := by decide +kernel
theorem dX5_markTwin_14 : decode cX5_markTwin 14 = .ok (.invokevirtual 208, 3) := by decide +kernel
theorem dX5_markTwin_17 : decode cX5_markTwin 17 = .ok (.iconst 2, 1) := by decide +kernel
theorem dX5_markTwin_18 : decode cX5_markTwin 18 = .ok (.imul, 1) := by decide +kernel
theorem dX5_markTwin_19 : decode cX5_markTwin 19 = .ok (.ireturn, 1) := by decide +kernel
theorem dX5_markBishop_0 : decode cX5_markBishop 0 = .ok (.aload_n 0, 1) := by decide +kernel
theorem dX5_markBishop_1 : decode cX5_markBishop 1 = .ok (.dup, 1) := by decide +kernel
theorem dX5_markBishop_2 : decode cX5_markBishop 2 = .ok (.getfield 63, 3) := by decide +kernel
theorem dX5_markBishop_5 : decode cX5_markBishop 5 = .ok (.ldc2_w 232, 3) := by decide +kernel
theorem dX5_markBishop_8 : decode cX5_markBishop 8 = .ok (.ladd, 1) := by decide +kernel
theorem dX5_markBishop_9 : decode cX5_markBishop 9 = .ok (.putfield 63, 3) := by decide +kernel
theorem dX5_markBishop_12 : decode cX5_markBishop 12 = .ok (.aload_n 0, 1) := by decide +kernel
theorem dX5_markBishop_13 : decode cX5_markBishop 13 = .ok (.iload_n 1, 1) := by decide +kernel
theorem dX5_markBishop_14 : decode cX5_markBishop 14 = .ok (.invokevirtual 211, 3) := by decide +kernel
theorem dX5_markBishop_17 : decode cX5_markBishop 17 = .ok (.iload_n 1, 1) := by decide +kernel
theorem dX5_markBishop_18 : decode cX5_markBishop 18 = .ok (.iadd, 1) := by decide +kernel
theorem dX5_markBishop_19 : decode cX5_markBishop 19 = .ok (.ireturn, 1) := by decide +kernel
theorem dX5_markBoot_0 : decode cX5_markBoot 0 = .ok (.aload_n 0, 1) := by decide +kernel
theorem dX5_markBoot_1 : decode cX5_markBoot 1 = .ok (.dup, 1) := by decide +kernel
theorem dX5_markBoot_2 : decode cX5_markBoot 2 = .ok (.getfield 63, 3) := by decide +kernel
theorem dX5_markBoot_5 : decode cX5_markBoot 5 = .ok (.ldc2_w 234, 3) := by decide +kernel
theorem dX5_markBoot_8 : decode cX5_markBoot 8 = .ok (.ladd, 1) := by decide +kernel
theorem dX5_markBoot_9 : decode cX5_markBoot 9 = .ok (.putfield 63, 3) := by decide +kernel
theorem dX5_markBoot_12 : decode cX5_markBoot 12 = .ok (.aload_n 0, 1) := by decide +kernel
theorem dX5_markBoot_13 : decode cX5_markBoot 13 = .ok (.iload_n 1, 1) := by decide +kernel
theorem dX5_markBoot_14 : decode cX5_markBoot 14 = .ok (.invokevirtual 205, 3) := by decide +kernel
theorem dX5_markBoot_17 : decode cX5_markBoot 17 = .ok (.aload_n 0, 1) := by decide +kernel
theorem dX5_markBoot_18 : decode cX5_markBoot 18 = .ok (.getfield 37, 3) := by decide +kernel
theorem dX5_markBoot_21 : decode cX5_markBoot 21 = .ok (.getfield 110, 3) := by decide +kernel
theorem dX5_markBoot_24 : decode cX5_markBoot 24 = .ok (.iadd, 1) := by decide +kernel
theorem dX5_markBoot_25 : decode cX5_markBoot 25 = .ok (.ireturn, 1) := by decide +kernel
theorem dX5_keep_0 : decode cX5_keep 0 = .ok (.iload_n 1, 1) := by decide +kernel
theorem dX5_keep_1 : decode cX5_keep 1 = .ok (.ifCond .lt 8, 3) := by decide +kernel
theorem dX5_keep_4 : decode cX5_keep 4 = .ok (.iload_n 1, 1) := by decide +kernel
theorem dX5_keep_5 : decode cX5_keep 5 = .ok (.iconst 2, 1) := by decide +kernel
theorem dX5_keep_6 : decode cX5_keep 6 = .ok (.if_icmp .lt 5, 3) := by decide +kernel
theorem dX5_keep_9 : decode cX5_keep 9 = .ok (.iconst (-1), 1) := by decide +kernel
theorem dX5_keep_10 : decode cX5_keep 10 = .ok (.ireturn, 1) := by decide +kernel
theorem dX5_keep_11 : decode cX5_keep 11 = .ok (.aload_n 0, 1) := by decide +kernel
theorem dX5_keep_12 : decode cX5_keep 12 = .ok (.getfield 41, 3) := by decide +kernel
theorem dX5_keep_15 : decode cX5_keep 15 = .ok (.iload_n 1, 1) := by decide +kernel
theorem dX5_keep_16 : decode cX5_keep 16 = .ok (.aaload, 1) := by decide +kernel
theorem dX5_keep_17 : decode cX5_keep 17 = .ok (.aload_n 0, 1) := by decide +kernel
theorem dX5_keep_18 : decode cX5_keep 18 = .ok (.getfield 37, 3) := by decide +kernel
theorem dX5_keep_21 : decode cX5_keep 21 = .ok (.invokevirtual 236, 3) := by decide +kernel
theorem dX5_keep_24 : decode cX5_keep 24 = .ok (.aload_n 0, 1) := by decide +kernel
theorem dX5_keep_25 : decode cX5_keep 25 = .ok (.getfield 45, 3) := by decide +kernel
theorem dX5_keep_28 : decode cX5_keep 28 = .ok (.iload_n 1, 1) := by decide +kernel
theorem dX5_keep_29 : decode cX5_keep 29 = .ok (.iconst 1, 1) := by decide +kernel
theorem dX5_keep_30 : decode cX5_keep 30 = .ok (.bastore, 1) := by decide +kernel
theorem dX5_keep_31 : decode cX5_keep 31 = .ok (.aload_n 0, 1) := by decide +kernel
theorem dX5_keep_32 : decode cX5_keep 32 = .ok (.getfield 37, 3) := by decide +kernel
theorem dX5_keep_35 : decode cX5_keep 35 = .ok (.getfield 107, 3) := by decide +kernel
theorem dX5_keep_38 : decode cX5_keep 38 = .ok (.ireturn, 1) := by decide +kernel
theorem dX5_back_0 : decode cX5_back 0 = .ok (.iload_n 1, 1) := by decide +kernel
theorem dX5_back_1 : decode cX5_back 1 = .ok (.ifCond .lt 8, 3) := by decide +kernel
theorem dX5_back_4 : decode cX5_back 4 = .ok (.iload_n 1, 1) := by decide +kernel
theorem dX5_back_5 : decode cX5_back 5 = .ok (.iconst 2, 1) := by decide +kernel
theorem dX5_back_6 : decode cX5_back 6 = .ok (.if_icmp .lt 5, 3) := by decide +kernel
theorem dX5_back_9 : decode cX5_back 9 = .ok (.iconst (-1), 1) := by decide +kernel
theorem dX5_back_10 : decode cX5_back 10 = .ok (.ireturn, 1) := by decide +kernel
theorem dX5_back_11 : decode cX5_back 11 = .ok (.aload_n 0, 1) := by decide +kernel
theorem dX5_back_12 : decode cX5_back 12 = .ok (.getfield 45, 3) := by decide +kernel
theorem dX5_back_15 : decode cX5_back 15 = .ok (.iload_n 1, 1) := by decide +kernel
theorem dX5_back_16 : decode cX5_back 16 = .ok (.baload, 1) := by decide +kernel
theorem dX5_back_17 : decode cX5_back 17 = .ok (.ifCond .ne 6, 3) := by decide +kernel
theorem dX5_back_20 : decode cX5_back 20 = .ok (.bipush (-2), 2) := by decide +kernel
theorem dX5_back_22 : decode cX5_back 22 = .ok (.ireturn, 1) := by decide +kernel
theorem dX5_back_23 : decode cX5_back 23 = .ok (.aload_n 0, 1) := by decide +kernel
theorem dX5_back_24 : decode cX5_back 24 = .ok (.getfield 37, 3) := by decide +kernel
theorem dX5_back_27 : decode cX5_back 27 = .ok (.aload_n 0, 1) := by decide +kernel
theorem dX5_back_28 : decode cX5_back 28 = .ok (.getfield 41, 3) := by decide +kernel
theorem dX5_back_31 : decode cX5_back 31 = .ok (.iload_n 1, 1) := by decide +kernel
theorem dX5_back_32 : decode cX5_back 32 = .ok (.aaload, 1) := by decide +kernel
theorem dX5_back_33 : decode cX5_back 33 = .ok (.invokevirtual 236, 3) := by decide +kernel
theorem dX5_back_36 : decode cX5_back 36 = .ok (.aload_n 0, 1) := by decide +kernel
theorem dX5_back_37 : decode cX5_back 37 = .ok (.getfield 37, 3) := by decide +kernel
theorem dX5_back_40 : decode cX5_back 40 = .ok (.getfield 107, 3) := by decide +kernel
theorem dX5_back_43 : decode cX5_back 43 = .ok (.ireturn, 1) := by decide +kernel
theorem dX5_count_0 : decode cX5_count 0 = .ok (.iload_n 1, 1) := by decide +kernel
theorem dX5_count_1 : decode cX5_count 1 = .ok (.tableswitch 72 0 4 #[35, 43, 51, 59, 67], 35) := by decide +kernel
theorem dX5_count_36 : decode cX5_count 36 = .ok (.aload_n 0, 1) := by decide +kernel
theorem dX5_count_37 : decode cX5_count 37 = .ok (.getfield 27, 3) := by decide +kernel
theorem dX5_count_40 : decode cX5_count 40 = .ok (.getfield 240, 3) := by decide +kernel
theorem dX5_count_43 : decode cX5_count 43 = .ok (.ireturn, 1) := by decide +kernel
theorem dX5_count_44 : decode cX5_count 44 = .ok (.aload_n 0, 1) := by decide +kernel
theorem dX5_count_45 : decode cX5_count 45 = .ok (.getfield 27, 3) := by decide +kernel
theorem dX5_count_48 : decode cX5_count 48 = .ok (.getfield 243, 3) := by decide +kernel
theorem dX5_count_51 : decode cX5_count 51 = .ok (.ireturn, 1) := by decide +kernel
theorem dX5_count_52 : decode cX5_count 52 = .ok (.aload_n 0, 1) := by decide +kernel
theorem dX5_count_53 : decode cX5_count 53 = .ok (.getfield 59, 3) := by decide +kernel
theorem dX5_count_56 : decode cX5_count 56 = .ok (.getfield 182, 3) := by decide +kernel
theorem dX5_count_59 : decode cX5_count 59 = .ok (.ireturn, 1) := by decide +kernel
theorem dX5_count_60 : decode cX5_count 60 = .ok (.aload_n 0, 1) := by decide +kernel
theorem dX5_count_61 : decode cX5_count 61 = .ok (.getfield 37, 3) := by decide +kernel
theorem dX5_count_64 : decode cX5_count 64 = .ok (.getfield 145, 3) := by decide +kernel
theorem dX5_count_67 : decode cX5_count 67 = .ok (.ireturn, 1) := by decide +kernel
theorem dX5_count_68 : decode cX5_count 68 = .ok (.aload_n 0, 1) := by decide +kernel
theorem dX5_count_69 : decode cX5_count 69 = .ok (.getfield 13, 3) := by decide +kernel
theorem dX5_count_72 : decode cX5_count 72 = .ok (.ireturn, 1) := by decide +kernel
theorem dX5_count_73 : decode cX5_count 73 = .ok (.iconst (-1), 1) := by decide +kernel
theorem dX5_count_74 : decode cX5_count 74 = .ok (.ireturn, 1) := by decide +kernel
theorem dX5_trace_0 : decode cX5_trace 0 = .ok (.aload_n 0, 1) := by decide +kernel
theorem dX5_trace_1 : decode cX5_trace 1 = .ok (.getfield 63, 3) := by decide +kernel
theorem dX5_trace_4 : decode cX5_trace 4 = .ok (.lreturn, 1) := by decide +kernel
theorem dJ6_bitCount_0f7a4_0 : decode cJ6_bitCount_0f7a4 0 = .ok (.iload_n 0, 1) := by decide +kernel
theorem dJ6_bitCount_0f7a4_1 : decode cJ6_bitCount_0f7a4 1 = .ok (.iload_n 0, 1) := by decide +kernel
theorem dJ6_bitCount_0f7a4_2 : decode cJ6_bitCount_0f7a4 2 = .ok (.iconst 1, 1) := by decide +kernel
theorem dJ6_bitCount_0f7a4_3 : decode cJ6_bitCount_0f7a4 3 = .ok (.iushr, 1) := by decide +kernel
theorem dJ6_bitCount_0f7a4_4 : decode cJ6_bitCount_0f7a4 4 = .ok (.ldc_w 265, 3) := by decide +kernel
theorem dJ6_bitCount_0f7a4_7 : decode cJ6_bitCount_0f7a4 7 = .ok (.iand, 1) := by decide +kernel
theorem dJ6_bitCount_0f7a4_8 : decode cJ6_bitCount_0f7a4 8 = .ok (.isub, 1) := by decide +kernel
theorem dJ6_bitCount_0f7a4_9 : decode cJ6_bitCount_0f7a4 9 = .ok (.istore_n 0, 1) := by decide +kernel
theorem dJ6_bitCount_0f7a4_10 : decode cJ6_bitCount_0f7a4 10 = .ok (.iload_n 0, 1) := by decide +kernel
theorem dJ6_bitCount_0f7a4_11 : decode cJ6_bitCount_0f7a4 11 = .ok (.ldc_w 266, 3) := by decide +kernel
theorem dJ6_bitCount_0f7a4_14 : decode cJ6_bitCount_0f7a4 14 = .ok (.iand, 1) := by decide +kernel
theorem dJ6_bitCount_0f7a4_15 : decode cJ6_bitCount_0f7a4 15 = .ok (.iload_n 0, 1) := by decide +kernel
theorem dJ6_bitCount_0f7a4_16 : decode cJ6_bitCount_0f7a4 16 = .ok (.iconst 2, 1) := by decide +kernel
theorem dJ6_bitCount_0f7a4_17 : decode cJ6_bitCount_0f7a4 17 = .ok (.iushr, 1) := by decide +kernel
theorem dJ6_bitCount_0f7a4_18 : decode cJ6_bitCount_0f7a4 18 = .ok (.ldc_w 266, 3) := by decide +kernel
theorem dJ6_bitCount_0f7a4_21 : decode cJ6_bitCount_0f7a4 21 = .ok (.iand, 1) := by decide +kernel
theorem dJ6_bitCount_0f7a4_22 : decode cJ6_bitCount_0f7a4 22 = .ok (.iadd, 1) := by decide +kernel
theorem dJ6_bitCount_0f7a4_23 : decode cJ6_bitCount_0f7a4 23 = .ok (.istore_n 0, 1) := by decide +kernel
theorem dJ6_bitCount_0f7a4_24 : decode cJ6_bitCount_0f7a4 24 = .ok (.iload_n 0, 1) := by decide +kernel
theorem dJ6_bitCount_0f7a4_25 : decode cJ6_bitCount_0f7a4 25 = .ok (.iload_n 0, 1) := by decide +kernel
theorem dJ6_bitCount_0f7a4_26 : decode cJ6_bitCount_0f7a4 26 = .ok (.iconst 4, 1) := by decide +kernel
theorem dJ6_bitCount_0f7a4_27 : decode cJ6_bitCount_0f7a4 27 = .ok (.iushr, 1) := by decide +kernel
theorem dJ6_bitCount_0f7a4_28 : decode cJ6_bitCount_0f7a4 28 = .ok (.iadd, 1) := by decide +kernel
theorem dJ6_bitCount_0f7a4_29 : decode cJ6_bitCount_0f7a4 29 = .ok (.ldc_w 267, 3) := by decide +kernel
theorem dJ6_bitCount_0f7a4_32 : decode cJ6_bitCount_0f7a4 32 = .ok (.iand, 1) := by decide +kernel
theorem dJ6_bitCount_0f7a4_33 : decode cJ6_bitCount_0f7a4 33 = .ok (.istore_n 0, 1) := by decide +kernel
theorem dJ6_bitCount_0f7a4_34 : decode cJ6_bitCount_0f7a4 34 = .ok (.iload_n 0, 1) := by decide +kernel
theorem dJ6_bitCount_0f7a4_35 : decode cJ6_bitCount_0f7a4 35 = .ok (.iload_n 0, 1) := by decide +kernel
theorem dJ6_bitCount_0f7a4_36 : decode cJ6_bitCount_0f7a4 36 = .ok (.bipush 8, 2) := by decide +kernel
theorem dJ6_bitCount_0f7a4_38 : decode cJ6_bitCount_0f7a4 38 = .ok (.iushr, 1) := by decide +kernel
theorem dJ6_bitCount_0f7a4_39 : decode cJ6_bitCount_0f7a4 39 = .ok (.iadd, 1) := by decide +kernel
theorem dJ6_bitCount_0f7a4_40 : decode cJ6_bitCount_0f7a4 40 = .ok (.istore_n 0, 1) := by decide +kernel
theorem dJ6_bitCount_0f7a4_41 : decode cJ6_bitCount_0f7a4 41 = .ok (.iload_n 0, 1) := by decide +kernel
theorem dJ6_bitCount_0f7a4_42 : decode cJ6_bitCount_0f7a4 42 = .ok (.iload_n 0, 1) := by decide +kernel
theorem dJ6_bitCount_0f7a4_43 : decode cJ6_bitCount_0f7a4 43 = .ok (.bipush 16, 2) := by decide +kernel
theorem dJ6_bitCount_0f7a4_45 : decode cJ6_bitCount_0f7a4 45 = .ok (.iushr, 1) := by decide +kernel
theorem dJ6_bitCount_0f7a4_46 : decode cJ6_bitCount_0f7a4 46 = .ok (.iadd, 1) := by decide +kernel
theorem dJ6_bitCount_0f7a4_47 : decode cJ6_bitCount_0f7a4 47 = .ok (.istore_n 0, 1) := by decide +kernel
theorem dJ6_bitCount_0f7a4_48 : decode cJ6_bitCount_0f7a4 48 = .ok (.iload_n 0, 1) := by decide +kernel
theorem dJ6_bitCount_0f7a4_49 : decode cJ6_bitCount_0f7a4 49 = .ok (.bipush 63, 2) := by decide +kernel
theorem dJ6_bitCount_0f7a4_51 : decode cJ6_bitCount_0f7a4 51 = .ok (.iand, 1) := by decide +kernel
theorem dJ6_bitCount_0f7a4_52 : decode cJ6_bitCount_0f7a4 52 = .ok (.ireturn, 1) := by decide +kernel
theorem dJ9_max_7cf53_0 : decode cJ9_max_7cf53 0 = .ok (.iload_n 0, 1) := by decide +kernel
theorem dJ9_max_7cf53_1 : decode cJ9_max_7cf53 1 = .ok (.iload_n 1, 1) := by decide +kernel
theorem dJ9_max_7cf53_2 : decode cJ9_max_7cf53 2 = .ok (.if_icmp .lt 7, 3) := by decide +kernel
theorem dJ9_max_7cf53_5 : decode cJ9_max_7cf53 5 = .ok (.iload_n 0, 1) := by decide +kernel
theorem dJ9_max_7cf53_6 : decode cJ9_max_7cf53 6 = .ok (.goto 4, 3) := by decide +kernel
theorem dJ9_max_7cf53_9 : decode cJ9_max_7cf53 9 = .ok (.iload_n 1, 1) := by decide +kernel
theorem dJ9_max_7cf53_10 : decode cJ9_max_7cf53 10 = .ok (.ireturn, 1) := by decide +kernel
theorem dJ9_min_7cf53_0 : decode cJ9_min_7cf53 0 = .ok (.iload_n 0, 1) := by decide +kernel
theorem dJ9_min_7cf53_1 : decode cJ9_min_7cf53 1 = .ok (.iload_n 1, 1) := by decide +kernel
theorem dJ9_min_7cf53_2 : decode cJ9_min_7cf53 2 = .ok (.if_icmp .gt 7, 3) := by decide +kernel
theorem dJ9_min_7cf53_5 : decode cJ9_min_7cf53 5 = .ok (.iload_n 0, 1) := by decide +kernel
theorem dJ9_min_7cf53_6 : decode cJ9_min_7cf53 6 = .ok (.goto 4, 3) := by decide +kernel
theorem dJ9_min_7cf53_9 : decode cJ9_min_7cf53 9 = .ok (.iload_n 1, 1) := by decide +kernel
theorem dJ9_min_7cf53_10 : decode cJ9_min_7cf53 10 = .ok (.ireturn, 1) := by decide +kernel
theorem dJ0_length_8abf5_0 : decode cJ0_length_8abf5 0 = .ok (.aload_n 0, 1) := by decide +kernel
theorem dJ0_length_8abf5_1 : decode cJ0_length_8abf5 1 = .ok (.getfield 9, 3) := by decide +kernel
theorem dJ0_length_8abf5_4 : decode cJ0_length_8abf5 4 = .ok (.arraylength, 1) := by decide +kernel
theorem dJ0_length_8abf5_5 : decode cJ0_length_8abf5 5 = .ok (.aload_n 0, 1) := by decide +kernel
theorem dJ0_length_8abf5_6 : decode cJ0_length_8abf5 6 = .ok (.invokevirtual 335, 3) := by decide +kernel
theorem dJ0_length_8abf5_9 : decode cJ0_length_8abf5 9 = .ok (.ishr, 1) := by decide +kernel
theorem dJ0_length_8abf5_10 : decode cJ0_length_8abf5 10 = .ok (.ireturn, 1) := by decide +kernel
theorem dJ0_charAt_5068e_0 : decode cJ0_charAt_5068e 0 = .ok (.aload_n 0, 1) := by decide +kernel
theorem dJ0_charAt_5068e_1 : decode cJ0_charAt_5068e 1 = .ok (.invokevirtual 492, 3) := by decide +kernel
theorem dJ0_charAt_5068e_4 : decode cJ0_charAt_5068e 4 = .ok (.ifCond .eq 12, 3) := by decide +kernel
theorem dJ0_charAt_5068e_7 : decode cJ0_charAt_5068e 7 = .ok (.aload_n 0, 1) := by decide +kernel
theorem dJ0_charAt_5068e_8 : decode cJ0_charAt_5068e 8 = .ok (.getfield 9, 3) := by decide +kernel
theorem dJ0_charAt_5068e_11 : decode cJ0_charAt_5068e 11 = .ok (.iload_n 1, 1) := by decide +kernel
theorem dJ0_charAt_5068e_12 : decode cJ0_charAt_5068e 12 = .ok (.invokestatic 495, 3) := by decide +kernel
theorem dJ0_charAt_5068e_15 : decode cJ0_charAt_5068e 15 = .ok (.ireturn, 1) := by decide +kernel
theorem dJ0_charAt_5068e_16 : decode cJ0_charAt_5068e 16 = .ok (.aload_n 0, 1) := by decide +kernel
theorem dJ0_charAt_5068e_17 : decode cJ0_charAt_5068e 17 = .ok (.getfield 9, 3) := by decide +kernel
theorem dJ0_charAt_5068e_20 : decode cJ0_charAt_5068e 20 = .ok (.iload_n 1, 1) := by decide +kernel
theorem dJ0_charAt_5068e_21 : decode cJ0_charAt_5068e 21 = .ok (.invokestatic 498, 3) := by decide +kernel
theorem dJ0_charAt_5068e_24 : decode cJ0_charAt_5068e 24 = .ok (.ireturn, 1) := by decide +kernel
theorem dJ0_coder_7d493_0 : decode cJ0_coder_7d493 0 = .ok (.getstatic 38, 3) := by decide +kernel
theorem dJ0_coder_7d493_3 : decode cJ0_coder_7d493 3 = .ok (.ifCond .eq 10, 3) := by decide +kernel
theorem dJ0_coder_7d493_6 : decode cJ0_coder_7d493 6 = .ok (.aload_n 0, 1) := by decide +kernel
theorem dJ0_coder_7d493_7 : decode cJ0_coder_7d493 7 = .ok (.getfield 15, 3) := by decide +kernel
theorem dJ0_coder_7d493_10 : decode cJ0_coder_7d493 10 = .ok (.goto 4, 3) := by decide +kernel
theorem dJ0_coder_7d493_13 : decode cJ0_coder_7d493 13 = .ok (.iconst 1, 1) := by decide +kernel
theorem dJ0_coder_7d493_14 : decode cJ0_coder_7d493 14 = .ok (.ireturn, 1) := by decide +kernel
theorem dJ0_isLatin1_aae02_0 : decode cJ0_isLatin1_aae02 0 = .ok (.getstatic 38, 3) := by decide +kernel
theorem dJ0_isLatin1_aae02_3 : decode cJ0_isLatin1_aae02 3 = .ok (.ifCond .eq 14, 3) := by decide +kernel
theorem dJ0_isLatin1_aae02_6 : decode cJ0_isLatin1_aae02 6 = .ok (.aload_n 0, 1) := by decide +kernel
theorem dJ0_isLatin1_aae02_7 : decode cJ0_isLatin1_aae02 7 = .ok (.getfield 15, 3) := by decide +kernel
theorem dJ0_isLatin1_aae02_10 : decode cJ0_isLatin1_aae02 10 = .ok (.ifCond .ne 7, 3) := by decide +kernel
theorem dJ0_isLatin1_aae02_13 : decode cJ0_isLatin1_aae02 13 = .ok (.iconst 1, 1) := by decide +kernel
theorem dJ0_isLatin1_aae02_14 : decode cJ0_isLatin1_aae02 14 = .ok (.goto 4, 3) := by decide +kernel
theorem dJ0_isLatin1_aae02_17 : decode cJ0_isLatin1_aae02 17 = .ok (.iconst 0, 1) := by decide +kernel
theorem dJ0_isLatin1_aae02_18 : decode cJ0_isLatin1_aae02 18 = .ok (.ireturn, 1) := by decide +kernel
theorem dJ0_checkIndex_df160_0 : decode cJ0_checkIndex_df160 0 = .ok (.iload_n 0, 1) := by decide +kernel
theorem dJ0_checkIndex_df160_1 : decode cJ0_checkIndex_df160 1 = .ok (.iload_n 1, 1) := by decide +kernel
theorem dJ0_checkIndex_df160_2 : decode cJ0_checkIndex_df160 2 = .ok (.getstatic 1053, 3) := by decide +kernel
theorem dJ0_checkIndex_df160_5 : decode cJ0_checkIndex_df160 5 = .ok (.invokestatic 1059, 3) := by decide +kernel
theorem dJ0_checkIndex_df160_8 : decode cJ0_checkIndex_df160 8 = .ok (.pop, 1) := by decide +kernel
theorem dJ0_checkIndex_df160_9 : decode cJ0_checkIndex_df160 9 = .ok (.return_, 1) := by decide +kernel
theorem dJ1_charAt_3b067_0 : decode cJ1_charAt_3b067 0 = .ok (.iload_n 1, 1) := by decide +kernel
theorem dJ1_charAt_3b067_1 : decode cJ1_charAt_3b067 1 = .ok (.aload_n 0, 1) := by decide +kernel
theorem dJ1_charAt_3b067_2 : decode cJ1_charAt_3b067 2 = .ok (.arraylength, 1) := by decide +kernel
theorem dJ1_charAt_3b067_3 : decode cJ1_charAt_3b067 3 = .ok (.invokestatic 9, 3) := by decide +kernel
theorem dJ1_charAt_3b067_6 : decode cJ1_charAt_3b067 6 = .ok (.aload_n 0, 1) := by decide +kernel
theorem dJ1_charAt_3b067_7 : decode cJ1_charAt_3b067 7 = .ok (.iload_n 1, 1) := by decide +kernel
theorem dJ1_charAt_3b067_8 : decode cJ1_charAt_3b067 8 = .ok (.baload, 1) := by decide +kernel
theorem dJ1_charAt_3b067_9 : decode cJ1_charAt_3b067 9 = .ok (.sipush 255, 3) := by decide +kernel
theorem dJ1_charAt_3b067_12 : decode cJ1_charAt_3b067 12 = .ok (.iand, 1) := by decide +kernel
theorem dJ1_charAt_3b067_13 : decode cJ1_charAt_3b067 13 = .ok (.i2c, 1) := by decide +kernel
theorem dJ1_charAt_3b067_14 : decode cJ1_charAt_3b067 14 = .ok (.ireturn, 1) := by decide +kernel
theorem dJ2_getChar_3b067_0 : decode cJ2_getChar_3b067 0 = .ok (.getstatic 44, 3) := by decide +kernel
theorem dJ2_getChar_3b067_3 : decode cJ2_getChar_3b067 3 = .ok (.ifCond .ne 25, 3) := by decide +kernel
theorem dJ2_getChar_3b067_6 : decode cJ2_getChar_3b067 6 = .ok (.iload_n 1, 1) := by decide +kernel
theorem dJ2_getChar_3b067_7 : decode cJ2_getChar_3b067 7 = .ok (.ifCond .lt 11, 3) := by decide +kernel
theorem dJ2_getChar_3b067_10 : decode cJ2_getChar_3b067 10 = .ok (.iload_n 1, 1) := by decide +kernel
theorem dJ2_getChar_3b067_11 : decode cJ2_getChar_3b067 11 = .ok (.aload_n 0, 1) := by decide +kernel
theorem dJ2_getChar_3b067_12 : decode cJ2_getChar_3b067 12 = .ok (.invokestatic 48, 3) := by decide +kernel
theorem dJ2_getChar_3b067_15 : decode cJ2_getChar_3b067 15 = .ok (.if_icmp .lt 13, 3) := by decide +kernel
theorem dJ2_getChar_3b067_18 : decode cJ2_getChar_3b067 18 = .ok (.new 52, 3) := by decide +kernel
theorem dJ2_getChar_3b067_21 : decode cJ2_getChar_3b067 21 = .ok (.dup, 1) := by decide +kernel
theorem dJ2_getChar_3b067_22 : decode cJ2_getChar_3b067 22 = .ok (.ldc 54, 2) := by decide +kernel
theorem dJ2_getChar_3b067_24 : decode cJ2_getChar_3b067 24 = .ok (.invokespecial 56, 3) := by decide +kernel
theorem dJ2_getChar_3b067_27 : decode cJ2_getChar_3b067 27 = .ok (.athrow, 1) := by decide +kernel
theorem dJ2_getChar_3b067_28 : decode cJ2_getChar_3b067 28 = .ok (.iload_n 1, 1) := by decide +kernel
theorem dJ2_getChar_3b067_29 : decode cJ2_getChar_3b067 29 = .ok (.iconst 1, 1) := by decide +kernel
theorem dJ2_getChar_3b067_30 : decode cJ2_getChar_3b067 30 = .ok (.ishl, 1) := by decide +kernel
theorem dJ2_getChar_3b067_31 : decode cJ2_getChar_3b067 31 = .ok (.istore_n 1, 1) := by decide +kernel
theorem dJ2_getChar_3b067_32 : decode cJ2_getChar_3b067 32 = .ok (.aload_n 0, 1) := by decide +kernel
theorem dJ2_getChar_3b067_33 : decode cJ2_getChar_3b067 33 = .ok (.iload_n 1, 1) := by decide +kernel
theorem dJ2_getChar_3b067_34 : decode cJ2_getChar_3b067 34 = .ok (.iinc 1 1, 3) := by decide +kernel
theorem dJ2_getChar_3b067_37 : decode cJ2_getChar_3b067 37 = .ok (.baload, 1) := by decide +kernel
theorem dJ2_getChar_3b067_38 : decode cJ2_getChar_3b067 38 = .ok (.sipush 255, 3) := by decide +kernel
theorem dJ2_getChar_3b067_41 : decode cJ2_getChar_3b067 41 = .ok (.iand, 1) := by decide +kernel
theorem dJ2_getChar_3b067_42 : decode cJ2_getChar_3b067 42 = .ok (.getstatic 59, 3) := by decide +kernel
theorem dJ2_getChar_3b067_45 : decode cJ2_getChar_3b067 45 = .ok (.ishl, 1) := by decide +kernel
theorem dJ2_getChar_3b067_46 : decode cJ2_getChar_3b067 46 = .ok (.aload_n 0, 1) := by decide +kernel
theorem dJ2_getChar_3b067_47 : decode cJ2_getChar_3b067 47 = .ok (.iload_n 1, 1) := by decide +kernel
theorem dJ2_getChar_3b067_48 : decode cJ2_getChar_3b067 48 = .ok (.baload, 1) := by decide +kernel
theorem dJ2_getChar_3b067_49 : decode cJ2_getChar_3b067 49 = .ok (.sipush 255, 3) := by decide +kernel
theorem dJ2_getChar_3b067_52 : decode cJ2_getChar_3b067 52 = .ok (.iand, 1) := by decide +kernel
theorem dJ2_getChar_3b067_53 : decode cJ2_getChar_3b067 53 = .ok (.getstatic 63, 3) := by decide +kernel
theorem dJ2_getChar_3b067_56 : decode cJ2_getChar_3b067 56 = .ok (.ishl, 1) := by decide +kernel
theorem dJ2_getChar_3b067_57 : decode cJ2_getChar_3b067 57 = .ok (.ior, 1) := by decide +kernel
theorem dJ2_getChar_3b067_58 : decode cJ2_getChar_3b067 58 = .ok (.i2c, 1) := by decide +kernel
theorem dJ2_getChar_3b067_59 : decode cJ2_getChar_3b067 59 = .ok (.ireturn, 1) := by decide +kernel
theorem dJ2_length_9d52b_0 : decode cJ2_length_9d52b 0 = .ok (.aload_n 0, 1) := by decide +kernel
theorem dJ2_length_9d52b_1 : decode cJ2_length_9d52b 1 = .ok (.arraylength, 1) := by decide +kernel
theorem dJ2_length_9d52b_2 : decode cJ2_length_9d52b 2 = .ok (.iconst 1, 1) := by decide +kernel
theorem dJ2_length_9d52b_3 : decode cJ2_length_9d52b 3 = .ok (.ishr, 1) := by decide +kernel
theorem dJ2_length_9d52b_4 : decode cJ2_length_9d52b 4 = .ok (.ireturn, 1) := by decide +kernel
theorem dJ2_charAt_3b067_0 : decode cJ2_charAt_3b067 0 = .ok (.iload_n 1, 1) := by decide +kernel
theorem dJ2_charAt_3b067_1 : decode cJ2_charAt_3b067 1 = .ok (.aload_n 0, 1) := by decide +kernel
theorem dJ2_charAt_3b067_2 : decode cJ2_charAt_3b067 2 = .ok (.invokestatic 67, 3) := by decide +kernel
theorem dJ2_charAt_3b067_5 : decode cJ2_charAt_3b067 5 = .ok (.aload_n 0, 1) := by decide +kernel
theorem dJ2_charAt_3b067_6 : decode cJ2_charAt_3b067 6 = .ok (.iload_n 1, 1) := by decide +kernel
theorem dJ2_charAt_3b067_7 : decode cJ2_charAt_3b067 7 = .ok (.invokestatic 71, 3) := by decide +kernel
theorem dJ2_charAt_3b067_10 : decode cJ2_charAt_3b067 10 = .ok (.ireturn, 1) := by decide +kernel
theorem dJ2_checkIndex_2214a_0 : decode cJ2_checkIndex_2214a 0 = .ok (.iload_n 0, 1) := by decide +kernel
theorem dJ2_checkIndex_2214a_1 : decode cJ2_checkIndex_2214a 1 = .ok (.aload_n 1, 1) := by decide +kernel
theorem dJ2_checkIndex_2214a_2 : decode cJ2_checkIndex_2214a 2 = .ok (.invokestatic 48, 3) := by decide +kernel
theorem dJ2_checkIndex_2214a_5 : decode cJ2_checkIndex_2214a 5 = .ok (.invokestatic 414, 3) := by decide +kernel
theorem dJ2_checkIndex_2214a_8 : decode cJ2_checkIndex_2214a 8 = .ok (.return_, 1) := by decide +kernel
theorem dJ7_fill_d0a16_0 : decode cJ7_fill_d0a16 0 = .ok (.iconst 0, 1) := by decide +kernel
theorem dJ7_fill_d0a16_1 : decode cJ7_fill_d0a16 1 = .ok (.istore_n 3, 1) := by decide +kernel
theorem dJ7_fill_d0a16_2 : decode cJ7_fill_d0a16 2 = .ok (.aload_n 0, 1) := by decide +kernel
theorem dJ7_fill_d0a16_3 : decode cJ7_fill_d0a16 3 = .ok (.arraylength, 1) := by decide +kernel
theorem dJ7_fill_d0a16_4 : decode cJ7_fill_d0a16 4 = .ok (.istore 4, 2) := by decide +kernel
theorem dJ7_fill_d0a16_6 : decode cJ7_fill_d0a16 6 = .ok (.iload_n 3, 1) := by decide +kernel
theorem dJ7_fill_d0a16_7 : decode cJ7_fill_d0a16 7 = .ok (.iload 4, 2) := by decide +kernel
theorem dJ7_fill_d0a16_9 : decode cJ7_fill_d0a16 9 = .ok (.if_icmp .ge 13, 3) := by decide +kernel
theorem dJ7_fill_d0a16_12 : decode cJ7_fill_d0a16 12 = .ok (.aload_n 0, 1) := by decide +kernel
theorem dJ7_fill_d0a16_13 : decode cJ7_fill_d0a16 13 = .ok (.iload_n 3, 1) := by decide +kernel
theorem dJ7_fill_d0a16_14 : decode cJ7_fill_d0a16 14 = .ok (.lload_n 1, 1) := by decide +kernel
theorem dJ7_fill_d0a16_15 : decode cJ7_fill_d0a16 15 = .ok (.lastore, 1) := by decide +kernel
theorem dJ7_fill_d0a16_16 : decode cJ7_fill_d0a16 16 = .ok (.iinc 3 1, 3) := by decide +kernel
theorem dJ7_fill_d0a16_19 : decode cJ7_fill_d0a16 19 = .ok (.goto (-13), 3) := by decide +kernel
theorem dJ7_fill_d0a16_22 : decode cJ7_fill_d0a16 22 = .ok (.return_, 1) := by decide +kernel
theorem dJ3_checkIndex_8e157_0 : decode cJ3_checkIndex_8e157 0 = .ok (.iload_n 0, 1) := by decide +kernel
theorem dJ3_checkIndex_8e157_1 : decode cJ3_checkIndex_8e157 1 = .ok (.ifCond .lt 8, 3) := by decide +kernel
theorem dJ3_checkIndex_8e157_4 : decode cJ3_checkIndex_8e157 4 = .ok (.iload_n 0, 1) := by decide +kernel
theorem dJ3_checkIndex_8e157_5 : decode cJ3_checkIndex_8e157 5 = .ok (.iload_n 1, 1) := by decide +kernel
theorem dJ3_checkIndex_8e157_6 : decode cJ3_checkIndex_8e157 6 = .ok (.if_icmp .lt 10, 3) := by decide +kernel
theorem dJ3_checkIndex_8e157_9 : decode cJ3_checkIndex_8e157 9 = .ok (.aload_n 2, 1) := by decide +kernel
theorem dJ3_checkIndex_8e157_10 : decode cJ3_checkIndex_8e157 10 = .ok (.iload_n 0, 1) := by decide +kernel
theorem dJ3_checkIndex_8e157_11 : decode cJ3_checkIndex_8e157 11 = .ok (.iload_n 1, 1) := by decide +kernel
theorem dJ3_checkIndex_8e157_12 : decode cJ3_checkIndex_8e157 12 = .ok (.invokestatic 95, 3) := by decide +kernel
theorem dJ3_checkIndex_8e157_15 : decode cJ3_checkIndex_8e157 15 = .ok (.athrow, 1) := by decide +kernel
theorem dJ3_checkIndex_8e157_16 : decode cJ3_checkIndex_8e157 16 = .ok (.iload_n 0, 1) := by decide +kernel
theorem dJ3_checkIndex_8e157_17 : decode cJ3_checkIndex_8e157 17 = .ok (.ireturn, 1) := by decide +kernel
